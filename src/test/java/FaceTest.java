import java.io.IOException;
import java.lang.reflect.Constructor;
import java.lang.reflect.Field;
import java.lang.reflect.Method;
import java.lang.reflect.Modifier;
import java.nio.file.Files;
import java.nio.file.Path;
import java.util.Arrays;
import java.util.List;
import java.util.TreeSet;
import java.util.regex.Matcher;
import java.util.regex.Pattern;
import java.util.stream.Collectors;

/** The public face is the document's and nothing more, and the source keeps to the rules of LANGUAGE.md that can be read off. */
public final class FaceTest {
    private static final Check c = new Check();
    private static final String[] FACE = {
        "int ticks(int)", "int box(int, int, int, int, int, int)", "boolean pull(int)", "boolean cut(int, int, boolean)",
        "int knocked(int, int)", "int reading(int, int, int)", "int stories()", "int story(int, int, int)", "int ask()",
        "int house(int, int)", "int company(int, int)", "boolean pace(int, int)", "int feed(long, long, long)", "int cards()",
        "int alarm(int)", "int again(int)", "int sent(int, int)", "boolean over(int, boolean)", "int at(int)", "int there(int)",
        "int covered(int)", "int moves()", "int move(int, int)", "int done()", "boolean word(int, boolean)", "int known(int, int)",
        "int rate(int, int)", "int worst(int)", "int look(int, int)", "int count(int)"};

    public static void main(String[] args) throws IOException {
        members();
        classesInside();
        source();
        recursion();
        c.end();
    }

    private static void members() {
        TreeSet<String> face = new TreeSet<>();
        for (Method m : AlarmBoxes.class.getDeclaredMethods()) {
            if (!Modifier.isPrivate(m.getModifiers()) && !m.isSynthetic()) {
                String types = Arrays.stream(m.getParameterTypes()).map(Class::getSimpleName).collect(Collectors.joining(", "));
                face.add(m.getReturnType().getSimpleName() + " " + m.getName() + "(" + types + ")");
                c.due(m.getName() + " is public, of an object", m.getModifiers() == Modifier.PUBLIC, true);
                c.due("throws of " + m.getName(), m.getExceptionTypes().length, m.getName().equals("look") ? 1 : 0);
            }
        }
        TreeSet<String> due = new TreeSet<>(List.of(FACE));
        if (!face.equals(due)) {
            System.out.println("the face is " + face);
        }
        c.due("the methods of the face", face.equals(due), true);
        for (Field f : AlarmBoxes.class.getDeclaredFields()) {
            c.due("field " + f.getName(), Modifier.isPrivate(f.getModifiers()) || f.getName().equals("NONE"), true);
            c.due("static " + f.getName(), !Modifier.isStatic(f.getModifiers()) || Modifier.isFinal(f.getModifiers()), true);
        }
        Constructor<?>[] made = AlarmBoxes.class.getDeclaredConstructors();
        c.due("constructors", made.length, 1);
        c.due("its parameters", made[0].getParameterCount(), 0);
        c.due("final", Modifier.isFinal(AlarmBoxes.class.getModifiers()), true);
    }

    private static void classesInside() {
        Class<?>[] inside = AlarmBoxes.class.getDeclaredClasses();
        c.due("twelve classes at most", inside.length <= 11, true);
        List<String> names = Arrays.stream(FACE).map(s -> s.replaceAll("\\(.*", "").replaceAll(".* ", "")).collect(Collectors.toList());
        c.due("names of the face", names.contains("ticks") && names.contains("count"), true);
        for (Method m : AlarmBoxes.class.getDeclaredMethods()) {
            boolean hides = Modifier.isPrivate(m.getModifiers()) && names.contains(m.getName());
            c.due(m + " is private and bears a public name", hides, false);
        }
        for (Class<?> k : inside) {
            c.due(k + " is static", Modifier.isStatic(k.getModifiers()), true);
            long fields = Arrays.stream(k.getDeclaredFields()).filter(f -> !Modifier.isStatic(f.getModifiers())).count();
            c.due("fields of " + k, fields <= 20, true);
            for (Method m : k.getDeclaredMethods()) {
                c.due(m + " bears no public name", names.contains(m.getName()), false);
                c.due(m + ": parameters", m.getParameterCount() <= 7, true);
            }
        }
    }

    private static void source() throws IOException {
        List<String> lines = Files.readAllLines(Path.of("src/main/java/AlarmBoxes.java"));
        String[] banned = {"catch", "finally", "synchronized", "assert", "->", "::", "System.", "Exact(", "\" +", "+ \"", "package "};
        for (String line : lines) {
            String code = line.trim();
            boolean counts = !code.startsWith("*") && !code.startsWith("/**") && !code.startsWith("//");
            for (String word : banned) {
                c.due(word + " in: " + code, counts && code.contains(word), false);
            }
            boolean known = code.equals("import java.util.ArrayList;") || code.equals("import java.util.NoSuchElementException;");
            c.due(code, !code.startsWith("import") || known, true);
            c.due(code, !counts || !code.contains("throw ") || code.equals("throw new NoSuchElementException();")
                || code.endsWith("default: throw new NoSuchElementException();"), true);
        }
    }

    /** Rule 8: a method that calls itself is private and static; methods of an object may only call one another. */
    private static void recursion() throws IOException {
        Pattern head = Pattern.compile("^(?: {4}| {8})((?:[a-z]+ )*)[A-Za-z\\[\\]]+ ([a-z][a-zA-Z]*)\\([^;]*\\{$");
        String name = "";
        String kind = "";
        int methods = 0;
        for (String line : Files.readAllLines(Path.of("src/main/java/AlarmBoxes.java"))) {
            Matcher m = head.matcher(line);
            if (m.matches() && !m.group(1).contains("new ")) {
                kind = m.group(1);
                name = m.group(2);
                methods++;
            } else if (!name.isEmpty() && Pattern.compile("(?<![.\\w])" + name + "\\(").matcher(line).find()) {
                c.due(name + " calls itself, is private and static", kind.contains("private static"), true);
            }
        }
        long declared = Arrays.stream(AlarmBoxes.class.getDeclaredMethods()).filter(m -> !m.isSynthetic()).count();
        for (Class<?> inside : AlarmBoxes.class.getDeclaredClasses()) {
            declared += Arrays.stream(inside.getDeclaredMethods()).filter(m -> !m.isSynthetic()).count();
        }
        c.due("the methods that were looked at", methods, declared);
    }
}
