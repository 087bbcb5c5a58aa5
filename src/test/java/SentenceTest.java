import java.io.IOException;
import java.lang.reflect.InvocationTargetException;
import java.lang.reflect.Method;
import java.nio.file.Files;
import java.nio.file.Path;
import java.util.ArrayList;
import java.util.Comparator;
import java.util.List;

/**
 * Runs every test that stands for a sentence of the document; and looks whether these sentences stand there, and
 * whether the document has words that no test stands for.
 */
public final class SentenceTest {
    private static final Class<?>[] TESTS = {NightSentences.class, RowSentences.class, TapeSentences.class,
        DoneSentences.class, ForetoldSentences.class, FittingSentences.class, AskedSentences.class};
    private static final Path DOCUMENT = Path.of("../shared/DOC.md");
    private static final int TERMS = 0, PROMISES = 40;
    /** What heads a part of the document, and promises nothing. */
    private static final String HEADS = "^: [a-zA-Z ]+ `[^`]*`|Ahead of the calls .*? the interface says:"
        + "|---- (rows|what is told|foretold|asked)\\.|======== \\d|```text|TEXTS:";

    private static int wrong = 0;

    private static void report(Says says, String what) {
        wrong++;
        System.out.println("promise " + says.promise() + ", \"" + says.sentence() + "\": " + what);
    }

    private static List<Method> tests() {
        List<Method> all = new ArrayList<>();
        for (Class<?> type : TESTS) {
            for (Method m : type.getDeclaredMethods()) if (m.isAnnotationPresent(Says.class)) all.add(m);
        }
        all.sort(Comparator.<Method>comparingInt(m -> m.getAnnotation(Says.class).promise()).thenComparing(Method::getName));
        return all;
    }

    private static void run(Method test) throws IllegalAccessException {
        Says says = test.getAnnotation(Says.class);
        try {
            test.invoke(null);
        } catch (InvocationTargetException thrown) {
            report(says, test.getName() + " threw " + thrown.getCause());
        }
        for (String one : Probe.takeWrong()) report(says, test.getName() + ": " + one);
    }

    /** From behind one head to the next, as one line, so that a sentence may go over the end of a line. */
    private static String part(String document, String head, String nextHead) {
        int from = document.indexOf(head);
        int to = document.indexOf(nextHead, from + 1);
        return from < 0 || to < 0 ? "" : document.substring(from + head.length(), to).replaceAll("\\s+", " ");
    }

    private static String[] parts(String document) {
        String[] all = new String[PROMISES + 1];
        all[TERMS] = part(document, "## What it is", "## The public face") + part(document, "## Terms", "## Promise 1:");
        for (int n = 1; n <= PROMISES; n++) {
            String next = n < PROMISES ? "## Promise " + (n + 1) + ":" : "## Not promised";
            all[n] = part(document, "## Promise " + n, next);
        }
        return all;
    }

    /** Takes a sentence out of what is left of its part; answers whether it stands there at all. */
    private static boolean strike(String part, StringBuilder left, String sentence) {
        int at = part.indexOf(sentence);
        boolean stands = at >= 0;
        while (at >= 0) {
            for (int i = at; i < at + sentence.length(); i++) left.setCharAt(i, ' ');
            at = part.indexOf(sentence, at + 1);
        }
        return stands;
    }

    private static void holdAgainst(String document, List<Method> tests) {
        String[] parts = parts(document);
        StringBuilder[] left = new StringBuilder[parts.length];
        for (int n = 0; n < left.length; n++) left[n] = new StringBuilder(parts[n]);
        for (Method test : tests) {
            Says says = test.getAnnotation(Says.class);
            int n = says.promise();
            boolean stands = strike(parts[n], left[n], says.sentence());
            stands |= strike(parts[TERMS], left[TERMS], says.sentence());
            if (!stands) report(says, "does not stand in the document");
        }
        for (int n = 0; n < left.length; n++) {
            String words = left[n].toString().replaceAll(HEADS, " ");
            if (parts[n].isEmpty() || words.matches(".*[A-Za-z0-9].*")) {
                wrong++;
                System.out.println((n == TERMS ? "what it is, Terms" : "promise " + n) + ": no test stands for: " + words);
            }
        }
    }

    public static void main(String[] args) throws IOException, IllegalAccessException {
        List<Method> tests = tests();
        for (Method test : tests) run(test);
        if (Files.exists(DOCUMENT)) {
            holdAgainst(Files.readString(DOCUMENT), tests);
        } else {
            System.out.println("the document is not here: the tests alone were run");
        }
        System.out.println(wrong == 0 ? tests.size() + " tests by sentences: all hold" : wrong + " answers are not as due");
        if (wrong != 0) System.exit(1);
    }
}
