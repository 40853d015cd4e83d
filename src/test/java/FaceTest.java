import java.lang.reflect.Constructor;
import java.lang.reflect.Field;
import java.lang.reflect.Method;
import java.lang.reflect.Modifier;
import java.util.Arrays;
import java.util.Set;
import java.util.TreeSet;
import java.util.regex.Matcher;
import java.util.regex.Pattern;

/** The face of the document, and nothing else that can be seen from outside. */
public final class FaceTest {
    private static final String[] FACE = {
        "int feed(int,int,int,int,int)", "boolean end(int)", "int market()", "int fault()", "int thing(int,int)",
        "int open(int,int)", "int ending(int,int)", "int closes(int,int)", "int man(int,int)", "int now(int)",
        "int buy(int,int)", "int put(int,int,int)", "int days(int)", "int undo()", "int fits(int,int)", "int ends(int)",
        "int row(int)", "int street(int)", "int has(int)", "int covers(int)", "int tray()", "int was()", "int ask()",
        "int haggle(int,int)", "int rounds()", "int likes(int,int)", "int gets(int)", "int trade()", "int when(int)",
        "int later(int,int)", "int dark()", "int cheapest(int)", "int drawn(int,int)", "int odds(int,int,int)",
        "int ledger(int)", "int told(int)", "int sentence()", "int said(int)", "boolean image(int)",
        "boolean restore(int)", "int count(int)"};

    public static void main(String[] args) {
        Class<?> face = EndingMarket.class;
        Check.due("public and final", face.getModifiers(), Modifier.PUBLIC | Modifier.FINAL);
        Set<String> seen = new TreeSet<>();
        Set<String> names = new TreeSet<>();
        for (Method m : face.getDeclaredMethods()) {
            if (Modifier.isPublic(m.getModifiers())) {
                String s = m.toString();
                seen.add(m.getReturnType() + " " + m.getName()
                        + s.substring(s.indexOf('('), s.indexOf(')') + 1));
                names.add(m.getName());
            } else {
                Check.due("private " + m, Modifier.isPrivate(m.getModifiers()), true);
            }
        }
        Set<String> due = new TreeSet<>(Arrays.asList(FACE));
        Check.due("the methods " + seen, seen.equals(due), true);
        Constructor<?>[] made = face.getDeclaredConstructors();
        Check.due("one constructor", made.length, 1);
        Check.due("without arguments, public", made[0].getParameterCount() == 0
                && Modifier.isPublic(made[0].getModifiers()), true);
        for (Field f : face.getDeclaredFields()) {
            boolean constant = f.getName().equals("NONE");
            Check.due("field " + f, Modifier.isPrivate(f.getModifiers()), !constant);
            Check.due("public " + f, Modifier.isPublic(f.getModifiers()), constant);
            Check.due("final " + f, !Modifier.isStatic(f.getModifiers()) || Modifier.isFinal(f.getModifiers()), true);
        }
        for (Class<?> inside : face.getDeclaredClasses()) {
            Check.due("static " + inside, Modifier.isStatic(inside.getModifiers()), true);
            Check.due("not public " + inside, Modifier.isPublic(inside.getModifiers()), false);
            for (Method m : inside.getDeclaredMethods()) {
                Check.due("no name of the face: " + m, names.contains(m.getName()), false);
            }
        }
        throwsAreTold();
        documentTellsTheSame(due);
        Check.finish();
    }

    private static void documentTellsTheSame(Set<String> due) {
        String text = Bounds.parts().getOrDefault("The public face", "");
        if (text.isEmpty()) {
            return;
        }
        Set<String> told = new TreeSet<>();
        Matcher method = Pattern.compile("public (int|boolean) ([a-z]+)\\(([^)]*)\\)( throws \\w+)?;").matcher(text);
        while (method.find()) {
            String types = method.group(3).replaceAll(" [a-z]+(,|$)", "$1").replace(" ", "");
            told.add(method.group(1) + " " + method.group(2) + "(" + types + ")");
            boolean throwing = method.group(2).equals("thing") || method.group(2).equals("ending");
            Check.due("the document's throws of " + method.group(2), method.group(4) != null, throwing);
        }
        Check.due("the document's methods " + told, told.equals(due), true);
        Check.due("NONE", text.contains("public static final int NONE = " + EndingMarket.NONE + ";"), true);
    }

    private static void throwsAreTold() {
        for (Method m : EndingMarket.class.getDeclaredMethods()) {
            boolean throwing = m.getName().equals("thing") || m.getName().equals("ending");
            if (Modifier.isPublic(m.getModifiers())) {
                Check.due("throws of " + m, m.getExceptionTypes().length, throwing ? 1 : 0);
            }
        }
    }
}
