import java.io.IOException;
import java.lang.reflect.InvocationTargetException;
import java.lang.reflect.Method;
import java.nio.charset.StandardCharsets;
import java.nio.file.Files;
import java.nio.file.Paths;
import java.util.ArrayList;
import java.util.Comparator;
import java.util.LinkedHashMap;
import java.util.List;
import java.util.Map;

/** Runs tests that quote the document: one test for one sentence. */
final class Bounds {
    private static final String DOC = "../shared/DOC.md";

    private Bounds() {
    }

    static void run(Class<?> tests) {
        Map<String, String> parts = parts();
        for (Method test : testsOf(tests)) {
            Says says = test.getAnnotation(Says.class);
            String name = tests.getSimpleName() + "." + test.getName();
            if (!parts.isEmpty()) {
                boolean stands = parts.getOrDefault(says.at(), "").contains(says.quote());
                Check.due(name + " quotes what stands under " + says.at(), stands, true);
            }
            runOne(test, says, name);
        }
        Check.finish();
    }

    private static void runOne(Method test, Says says, String name) {
        int before = Check.asked();
        Check.about(says.at() + " (\"" + says.quote() + "\"), " + name + ": ");
        try {
            test.setAccessible(true);
            test.invoke(null);
        } catch (InvocationTargetException e) {
            Check.due("the test threw " + e.getCause() + ", so nothing", 1, 0);
        } catch (IllegalAccessException e) {
            Check.due("the test can't be run: " + e + ", so nothing", 1, 0);
        }
        Check.due("answers looked at by the test: some", Check.asked() > before, true);
        Check.about("");
    }

    /** By their names, so that they always come in the same order. */
    static List<Method> testsOf(Class<?> tests) {
        List<Method> all = new ArrayList<>();
        for (Method m : tests.getDeclaredMethods()) {
            if (m.isAnnotationPresent(Says.class)) {
                all.add(m);
            }
        }
        all.sort(Comparator.comparing(Method::getName));
        return all;
    }

    /**
     * The document by its headings, all white space in it one blank, without the lines that only frame it.
     * Empty where there is no document: the tests hold without it, and only their quotes can't be compared.
     */
    static Map<String, String> parts() {
        Map<String, StringBuilder> parts = new LinkedHashMap<>();
        StringBuilder part = new StringBuilder();
        for (String line : lines()) {
            if (line.startsWith("## ")) {
                part = new StringBuilder();
                parts.put(line.substring(3).trim(), part);
            } else if (!line.startsWith("```")) {
                part.append(line).append(' ');
            }
        }
        Map<String, String> texts = new LinkedHashMap<>();
        for (Map.Entry<String, StringBuilder> one : parts.entrySet()) {
            texts.put(one.getKey(), one.getValue().toString().replaceAll("\\s+", " ").trim());
        }
        return texts;
    }

    private static List<String> lines() {
        try {
            return Files.readAllLines(Paths.get(DOC), StandardCharsets.UTF_8);
        } catch (IOException e) {
            System.out.println(DOC + " can't be read, so no quote is compared: " + e);
            return new ArrayList<>();
        }
    }
}
