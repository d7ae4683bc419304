import java.io.IOException;
import java.lang.reflect.InvocationTargetException;
import java.lang.reflect.Method;
import java.util.Arrays;
import java.util.Comparator;
import java.util.HashSet;
import java.util.Set;

/** Each sentence of the document that names a boundary case, by the test that bears it. */
public final class SentencesTest {
    private static final Class<?>[] TESTS = {
        FrameSentences.class, TermsSentences.class, StepsSentences.class, RefusalSentences.class,
        AnswerSentences.class,
    };

    private final Document document;
    private final Set<String> held = new HashSet<>();

    private SentencesTest(Document read) {
        document = read;
    }

    public static void main(String[] args) throws IOException {
        new SentencesTest(new Document(Document.FILE)).run();
        Check.end("SentencesTest");
    }

    private void run() {
        for (Class<?> tests : TESTS) {
            Method[] methods = tests.getDeclaredMethods();
            Arrays.sort(methods, Comparator.comparing(Method::getName));
            for (Method method : methods) {
                Sentence sentence = method.getAnnotation(Sentence.class);
                if (sentence != null) {
                    hold(method, sentence);
                }
            }
        }
        for (String part : Document.parts()) {
            Check.same("a test holds a sentence of " + part, held.contains(part), true);
        }
    }

    private void hold(Method method, Sentence sentence) {
        Check.begin(sentence.of() + ", \"" + sentence.says() + "\" (" + method.getName() + ")");
        held.add(sentence.of());
        Check.same("the document says this there", document.says(sentence.of(), sentence.says()), true);
        long before = Check.checks();
        try {
            method.invoke(null);
        } catch (InvocationTargetException e) {
            Check.wrong(method.getName() + " was ended by " + e.getCause());
        } catch (IllegalAccessException e) {
            Check.wrong(method.getName() + " can't be called");
        }
        if (Check.checks() == before) {
            Check.wrong(method.getName() + " checks nothing");
        }
        Check.begin("");
    }
}
