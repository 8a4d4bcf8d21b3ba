import java.io.IOException;
import java.lang.reflect.InvocationTargetException;
import java.lang.reflect.Method;
import java.nio.file.Path;
import java.util.Arrays;
import java.util.Comparator;

/** Runs the tests that are told by a sentence, and looks that no sentence of the document is without one. */
final class Sentences {
    private static final Class<?>[] TESTS = {
        TermSentences.class, PlotSentences.class, InterestSentences.class, SchemeSentences.class, TakingSentences.class,
        PayingSentences.class, OfferSentences.class, DaySentences.class};

    private Sentences() {
    }

    static void all(String path) throws IOException, IllegalAccessException {
        Document document = new Document(Path.of(path));
        for (Class<?> tests : TESTS) {
            Method[] methods = tests.getDeclaredMethods();
            Arrays.sort(methods, Comparator.comparing(Method::getName));
            for (Method method : methods) {
                Sentence sentence = method.getAnnotation(Sentence.class);
                if (sentence != null) {
                    run(method, sentence, document);
                }
            }
        }
        for (String clause : document.withoutTest()) {
            Tally.check(false, "no test quotes this sentence of the document: " + clause);
        }
    }

    private static void run(Method method, Sentence sentence, Document document) throws IllegalAccessException {
        for (String words : sentence.words()) {
            Tally.check(document.quote(sentence.of(), words), method + " quotes what the document does not say under "
                    + sentence.of() + ": " + words);
        }
        int before = Tally.failed();
        try {
            method.invoke(null);
        } catch (InvocationTargetException e) {
            Tally.check(false, method + " threw " + e.getCause());
        }
        if (Tally.failed() > before) {
            System.out.println("BROKEN: " + method.getDeclaringClass().getName() + "." + method.getName() + ", "
                    + sentence.of() + ": " + String.join(" / ", sentence.words()));
        }
    }
}
