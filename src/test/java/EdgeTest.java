import java.io.IOException;
import java.lang.reflect.InvocationTargetException;
import java.lang.reflect.Method;
import java.nio.file.Files;
import java.nio.file.Path;
import java.util.ArrayList;
import java.util.Arrays;
import java.util.Comparator;
import java.util.List;

/**
 * A test of its own for each sentence of the document: a method marked with the sentence. Each sentence has to
 * stand in the document still, each promise to have one, and no word of the document to be left without a test.
 */
public final class EdgeTest {
    static final Path DOCUMENT = Path.of("../shared/DOC.md");
    private static final int PROMISES = 50;
    // The words of a heading, and the call that stands behind it.
    private static final String HEADINGS = "## Terms|==== [0-9][.]|```text|```|## Promise [0-9]+: .*?`: ";

    public static void main(String[] args) throws Exception {
        List<Method> tests = new ArrayList<>();
        for (Class<?> all : new Class<?>[] {TextEdges.class, ActEdges.class, AskEdges.class, ChalkEdges.class,
            PlainCases.class}) {
            for (Method m : all.getDeclaredMethods()) {
                if (m.isAnnotationPresent(Says.class)) {
                    tests.add(m);
                }
            }
        }
        tests.sort(Comparator.comparingInt((Method m) -> says(m).promise()).thenComparing(Method::getName));
        for (Method test : tests) {
            run(test);
        }
        lookAtSentences(tests);
        System.out.println("EdgeTest: " + tests.size() + " sentences");
        Check.end("EdgeTest");
    }

    private static Says says(Method test) {
        return test.getAnnotation(Says.class);
    }

    private static void run(Method test) throws IllegalAccessException {
        int right = Check.right();
        int wrong = Check.wrong();
        try {
            test.setAccessible(true);
            test.invoke(null);
        } catch (InvocationTargetException e) {
            Check.is(test.getName() + " threw " + e.getCause(), false);
        }
        if (Check.wrong() != wrong || Check.right() == right) {
            System.out.println("BROKEN: " + test.getName() + ", promise " + says(test).promise() + ": " + says(test).value());
        }
        Check.is(test.getName() + " looks at something", Check.right() != right || Check.wrong() != wrong);
    }

    private static void lookAtSentences(List<Method> tests) throws IOException {
        String document = Files.readString(DOCUMENT).replaceAll("\\s+", " ");
        for (Method test : tests) {
            Check.is("the document says of promise " + says(test).promise() + ": " + says(test).value(),
                    part(document, says(test).promise()).contains(says(test).value()));
        }
        for (int promise = 1; promise <= PROMISES; promise++) {
            int which = promise;
            Check.is("promise " + promise + " has a test", tests.stream().anyMatch(m -> says(m).promise() == which));
        }
        for (int promise = 0; promise <= PROMISES; promise++) {
            lookAtWords(tests, promise, part(document, promise));
        }
    }

    /** What is left of a part without what its tests say: no words, but for headings. */
    private static void lookAtWords(List<Method> tests, int promise, String part) {
        String left = part.substring(Math.max(0, part.indexOf("## Terms")));
        char[] signs = left.toCharArray();
        for (Method test : tests) {
            String value = says(test).value();
            int at = says(test).promise() == promise ? left.indexOf(value) : -1;
            while (at >= 0) {
                Arrays.fill(signs, at, at + value.length(), '~');
                at = left.indexOf(value, at + 1);
            }
        }
        for (String words : new String(signs).replaceAll(HEADINGS, "~").split("~")) {
            Check.isNot("no test says of promise " + promise + ": " + words, words.matches(".*[A-Za-z0-9].*"));
        }
    }

    private static String part(String document, int promise) {
        int from = promise == 0 ? 0 : document.indexOf("## Promise " + promise + ":");
        int to = document.indexOf("## Promise " + (promise + 1) + ":");
        if (to < 0) {
            to = document.indexOf("## Not promised");
        }
        return from < 0 || to < from ? "" : document.substring(from, to);
    }
}
