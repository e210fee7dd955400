import java.io.IOException;
import java.lang.reflect.Method;
import java.nio.file.Files;
import java.nio.file.Path;
import java.util.ArrayList;
import java.util.Arrays;
import java.util.List;

/** Each word of the terms and of the promises stands above a test of its own, as the document writes it. */
public final class QuotesTest {
    private static final Path DOCUMENT = Path.of("../shared/DOC.md");
    private static final Class<?>[] TESTS = {TermsEdgesTest.class, FeedEdgesTest.class, SumEdgesTest.class,
        DivideEdgesTest.class, PointEdgesTest.class, LookEdgesTest.class};
    private static final int PROMISES = 17;

    public static void main(String[] args) throws IOException {
        List<Method> tests = new ArrayList<>();
        for (Class<?> one : TESTS) {
            tests.addAll(Sayings.of(one));
        }
        eachPromiseHasTests(tests);
        if (Files.isReadable(DOCUMENT)) {
            compareWith(Files.readString(DOCUMENT), tests);
        } else {
            System.out.println("there is no " + DOCUMENT + " to compare with");
        }
        Check.end();
    }

    private static void eachPromiseHasTests(List<Method> tests) {
        boolean[] found = new boolean[PROMISES + 1];
        for (Method test : tests) {
            found[Sayings.promise(test)] = true;
        }
        for (int promise = 0; promise <= PROMISES; promise++) {
            Check.due("promise " + promise + " has a test", found[promise], true);
        }
    }

    private static void compareWith(String document, List<Method> tests) {
        for (int promise = 0; promise <= PROMISES; promise++) {
            String words = wordsOf(document, promise);
            boolean[] quoted = new boolean[words.length()];
            for (Method test : tests) {
                if (Sayings.promise(test) == promise) {
                    markQuote(words, quoted, test);
                }
            }
            Check.due("words of promise " + promise + " without a test", unquoted(words, quoted), "");
        }
    }

    /** Without the head and, of a promise, without the face that stands before the first colon. */
    private static String wordsOf(String document, int promise) {
        String head = promise == 0 ? "\n## Terms\n" : "\n## Promise " + promise + ":";
        int from = document.indexOf(head);
        if (from < 0) {
            return "";
        }
        int body = document.indexOf('\n', from + 1);
        int to = document.indexOf("\n## ", body);
        String words = document.substring(body, to < 0 ? document.length() : to).replaceAll("\\s+", " ").trim();
        return promise == 0 ? words : words.replaceFirst("^`[^`]*`: ", "");
    }

    private static void markQuote(String words, boolean[] quoted, Method test) {
        String text = Sayings.text(test);
        int at = words.indexOf(text);
        Check.due(test.getName() + " quotes the document", at >= 0, true);
        while (at >= 0) {
            Arrays.fill(quoted, at, at + text.length(), true);
            at = words.indexOf(text, at + 1);
        }
    }

    private static String unquoted(String words, boolean[] quoted) {
        StringBuilder left = new StringBuilder();
        for (int i = 0; i < quoted.length; i++) {
            if (!quoted[i]) {
                left.append(words.charAt(i));
            }
        }
        return left.toString().trim();
    }
}
