import java.io.IOException;
import java.lang.reflect.Method;
import java.lang.reflect.Modifier;
import java.nio.charset.StandardCharsets;
import java.nio.file.Files;
import java.nio.file.Path;
import java.nio.file.Paths;
import java.util.ArrayList;
import java.util.Arrays;
import java.util.List;
import java.util.regex.Matcher;
import java.util.regex.Pattern;

/** What README.md says of the use and of the tests: its example is called line by line, its files are looked for. */
public final class ReadmeTest {
    private static final Pattern CALL = Pattern.compile("x\\.([a-z]+)\\(([^)]*)\\);(?:\\s*// (-?\\d+):.*)?");
    private static final Pattern NAMED = Pattern.compile("`([^`\\s]+)`");
    private static final List<String> NO_FILES = Arrays.asList("NoSuchElementException", "Test");
    private static final List<String> PLACES = Arrays.asList("", "src/test/java/");

    public static void main(String[] args) throws IOException, ReflectiveOperationException {
        List<String> lines = Files.readAllLines(Paths.get("README.md"), StandardCharsets.UTF_8);
        EndingMarket x = null;
        int answers = 0;
        for (String line : lines) {
            Matcher call = CALL.matcher(line);
            if (line.equals("EndingMarket x = new EndingMarket();")) {
                x = new EndingMarket();
            }
            while (x != null && call.find()) {
                Object got = call(x, call.group(1), call.group(2));
                if (call.group(3) != null) {
                    answers++;
                    Check.due("README.md: " + line.trim(), got.toString().equals(call.group(3)), true);
                }
            }
        }
        Check.due("answers told in README.md: some", answers >= 4, true);
        filesStand(lines);
        callsAreNamed(lines);
        Check.finish();
    }

    private static void callsAreNamed(List<String> lines) {
        String text = String.join(" ", lines);
        for (Method m : EndingMarket.class.getDeclaredMethods()) {
            if (Modifier.isPublic(m.getModifiers())) {
                boolean named = text.contains("`" + m.getName() + "`") || text.contains("`" + m.getName() + "(");
                Check.due(m.getName() + " named in README.md", named, true);
            }
        }
    }

    private static Object call(EndingMarket x, String name, String numbers) throws ReflectiveOperationException {
        List<Integer> args = new ArrayList<>();
        for (String number : numbers.split(",")) {
            if (!number.trim().isEmpty()) {
                args.add(Long.decode(number.trim()).intValue());
            }
        }
        Class<?>[] types = new Class<?>[args.size()];
        Arrays.fill(types, int.class);
        Method method = EndingMarket.class.getMethod(name, types);
        return method.invoke(x, args.toArray());
    }

    /** Paths, and classes of the tests: names in README.md that have a slash or begin with a capital letter. */
    private static void filesStand(List<String> lines) {
        int some = 0;
        for (String line : lines) {
            Matcher named = NAMED.matcher(line);
            while (named.find()) {
                String name = named.group(1);
                if (name.matches("[A-Z][a-z]+[A-Za-z]*") && !NO_FILES.contains(name)) {
                    name += ".java";
                } else if (!name.contains("/") || name.startsWith("../shared")) {
                    continue;
                }
                some++;
                Check.due("a file for " + name + " of README.md", stands(name), true);
            }
        }
        Check.due("files named in README.md: some", some > 0, true);
    }

    private static boolean stands(String name) {
        for (String place : PLACES) {
            Path path = Paths.get(place + name);
            if (Files.exists(path)) {
                return true;
            }
        }
        return false;
    }
}
