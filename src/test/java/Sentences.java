import java.io.IOException;
import java.lang.reflect.InvocationTargetException;
import java.lang.reflect.Method;
import java.nio.file.Files;
import java.nio.file.Path;
import java.util.ArrayList;
import java.util.Comparator;
import java.util.List;

/** The document's sentences, and the tests that name them. */
final class Sentences {
    private static final int PROMISES = 62;

    private final Due due;
    /** What stands ahead of the promises: it binds each of them. */
    private final String rules;
    private final String[] promises = new String[PROMISES + 1];
    private final List<Sentence> named = new ArrayList<>();

    Sentences(Due due, Path document) throws IOException {
        this.due = due;
        String doc = oneLine(Files.readString(document));
        int from = doc.indexOf(" ## Promise 1: ");
        rules = doc.substring(0, from);
        for (int n = 1; n <= PROMISES; n++) {
            int to = doc.indexOf(n < PROMISES ? " ## Promise " + (n + 1) + ": " : " ## Not promised ");
            // behind the heading and the signature
            promises[n] = doc.substring(doc.indexOf("`: ", from) + 3, to);
            from = to;
        }
    }

    private static String oneLine(String text) {
        return text.replaceAll("```(java|text)?", " ").replaceAll("\\s+", " ");
    }

    /** Asks all tests of a class, by promises. */
    void ask(Class<?> tests) throws IllegalAccessException {
        List<Method> methods = new ArrayList<>(List.of(tests.getDeclaredMethods()));
        methods.removeIf(m -> !m.isAnnotationPresent(Sentence.class));
        methods.sort(Comparator.comparingInt((Method m) -> m.getAnnotation(Sentence.class).promise())
            .thenComparing(Method::getName));
        for (Method m : methods) {
            askOne(m, m.getAnnotation(Sentence.class));
        }
    }

    private void askOne(Method test, Sentence sentence) throws IllegalAccessException {
        named.add(sentence);
        due.about("promise " + sentence.promise() + ", \"" + sentence.says() + "\", " + test.getName());
        due.yes("the document says so", rules.contains(sentence.says())
            || promises[sentence.promise()].contains(sentence.says()));
        int asked = due.asked();
        try {
            test.invoke(null, due);
        } catch (InvocationTargetException e) {
            due.yes("a call threw " + e.getCause(), false);
        }
        due.yes("the test asks something", due.asked() > asked);
        due.about("");
    }

    /** Sees whether each sentence has a test that names it. */
    void areAllNamed() {
        String terms = rules.substring(rules.indexOf(" ## Terms ") + 10);
        for (String sentence : cut(terms)) {
            boolean heading = sentence.startsWith("====");
            due.yes("a test names: " + sentence, heading || isNamed(sentence, 0));
        }
        for (int n = 1; n <= PROMISES; n++) {
            for (String sentence : cut(promises[n])) {
                due.yes("a test of promise " + n + " names: " + sentence, isNamed(sentence, n));
            }
        }
    }

    private boolean isNamed(String sentence, int promise) {
        for (Sentence s : named) {
            boolean same = sentence.contains(s.says()) || s.says().contains(sentence);
            if (same && (promise == 0 || promise == s.promise())) {
                return true;
            }
        }
        return false;
    }

    /** A sentence ends with a point that isn't one of two, as in 0 .. 9. */
    private static List<String> cut(String text) {
        List<String> sentences = new ArrayList<>();
        for (String s : text.split("(?<=[^. ])\\.\\)?( |$)")) {
            if (!s.isBlank()) {
                sentences.add(s.trim());
            }
        }
        return sentences;
    }
}
