import java.lang.reflect.Method;
import java.util.ArrayList;
import java.util.Arrays;
import java.util.List;
import java.util.Map;

/** Each sentence of the document's Terms and promises stands above a test, word by word: nothing is left out. */
public final class CoverTest {
    private static final Class<?>[] TESTS = {TokenBoundsTest.class, MarketBoundsTest.class, LedgerBoundsTest.class,
        SentenceBoundsTest.class, FaultBoundsTest.class, DeedBoundsTest.class, SearchBoundsTest.class, RingBoundsTest.class,
        TimeBoundsTest.class, FirstPromisesTest.class, SecondPromisesTest.class, LastPromisesTest.class};
    // What promises nothing: the signs between the parts of the Terms.
    private static final List<String> NO_SENTENCES = Arrays.asList("==== 2.", "==== 3.");
    private static final int PROMISES = 42;

    public static void main(String[] args) {
        Map<String, String> parts = Bounds.parts();
        int promises = 0;
        for (Map.Entry<String, String> part : parts.entrySet()) {
            boolean promise = part.getKey().startsWith("Promise ");
            if (promise || part.getKey().equals("Terms")) {
                Check.due(part.getKey() + " has tests", testsFor(part.getKey()) > 0, true);
                for (String rest : leftOut(part.getKey(), part.getValue())) {
                    Check.due("under " + part.getKey() + " without a test: \"" + rest + "\": that", 1, 0);
                }
            }
            promises += promise ? 1 : 0;
        }
        if (!parts.isEmpty()) {
            Check.due("promises in the document", promises, PROMISES);
        }
        Check.finish();
    }

    private static int testsFor(String heading) {
        int some = 0;
        for (Class<?> tests : TESTS) {
            for (Method test : Bounds.testsOf(tests)) {
                some += test.getAnnotation(Says.class).at().equals(heading) ? 1 : 0;
            }
        }
        return some;
    }

    private static List<String> leftOut(String heading, String text) {
        boolean[] held = new boolean[text.length()];
        // The line with the method itself: FaceTest holds it.
        if (text.startsWith("`")) {
            Arrays.fill(held, 0, text.indexOf("`:") + 2, true);
        }
        for (Class<?> tests : TESTS) {
            for (Method test : Bounds.testsOf(tests)) {
                Says says = test.getAnnotation(Says.class);
                if (says.at().equals(heading)) {
                    hold(held, text, says.quote());
                }
            }
        }
        List<String> rests = new ArrayList<>();
        StringBuilder rest = new StringBuilder();
        for (int i = 0; i <= text.length(); i++) {
            if (i < text.length() && !held[i]) {
                rest.append(text.charAt(i));
            } else {
                String words = rest.toString().trim();
                if (!words.isEmpty() && !NO_SENTENCES.contains(words)) {
                    rests.add(words);
                }
                rest.setLength(0);
            }
        }
        return rests;
    }

    private static void hold(boolean[] held, String text, String quote) {
        for (int at = text.indexOf(quote); at >= 0; at = text.indexOf(quote, at + 1)) {
            Arrays.fill(held, at, at + quote.length(), true);
        }
    }
}
