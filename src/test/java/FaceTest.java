import java.io.IOException;
import java.lang.reflect.Constructor;
import java.lang.reflect.Field;
import java.lang.reflect.Method;
import java.lang.reflect.Modifier;
import java.nio.file.Files;
import java.nio.file.Path;
import java.util.ArrayList;
import java.util.Arrays;
import java.util.List;
import java.util.TreeSet;
import java.util.regex.Pattern;

/** The public face is the document's and no more; and some rules of LANGUAGE.md, read from the source. */
public final class FaceTest {
    private static final Path DOCUMENT = Path.of("../shared/DOC.md");
    private static final Path SOURCE = Path.of("src/main/java/BarrierMarks.java");

    public static void main(String[] args) throws IOException {
        face();
        namesOfPrivateMethods();
        sizes();
        rulesOfTheSource();
        Check.end("FaceTest");
    }

    private static void face() throws IOException {
        Class<?> type = BarrierMarks.class;
        Check.due("public and final", true,
            () -> Modifier.isPublic(type.getModifiers()) && Modifier.isFinal(type.getModifiers()));
        TreeSet<String> want = new TreeSet<>();
        for (String line : Files.readAllLines(DOCUMENT)) {
            if (line.startsWith("    public ")) {
                want.add(line.strip().replaceAll(" = -1", ""));
            }
        }
        TreeSet<String> got = new TreeSet<>();
        for (Constructor<?> each : type.getDeclaredConstructors()) {
            addVisible(got, each.getModifiers(), "public BarrierMarks(int tasks);");
        }
        for (Field each : type.getDeclaredFields()) {
            addVisible(got, each.getModifiers(), "public static final " + each.getType() + " " + each.getName() + ";");
        }
        for (Method each : type.getDeclaredMethods()) {
            String shape = shapeOf(each);
            String same = want.stream().filter(line -> withoutNames(line).equals(shape)).findFirst().orElse(shape);
            addVisible(got, each.getModifiers(), same);
        }
        Check.due("the face", want, () -> got);
        for (Class<?> each : type.getDeclaredClasses()) {
            boolean fits = Modifier.isStatic(each.getModifiers())
                && !Modifier.isPublic(each.getModifiers()) && !Modifier.isProtected(each.getModifiers());
            Check.due(each.getName() + " is static and not public", true, () -> fits);
        }
    }

    private static void addVisible(TreeSet<String> got, int modifiers, String shape) {
        if (!Modifier.isPrivate(modifiers)) {
            got.add(shape);
        }
    }

    private static String withoutNames(String line) {
        return line.replaceAll("(int|long) \\w+([,)])", "$1$2");
    }

    private static String shapeOf(Method method) {
        List<String> takes = Arrays.stream(method.getParameterTypes()).map(Class::getSimpleName).toList();
        List<String> throwsThese = Arrays.stream(method.getExceptionTypes()).map(Class::getSimpleName).toList();
        return "public " + method.getReturnType() + " " + method.getName() + "(" + String.join(", ", takes) + ")"
            + (throwsThese.isEmpty() ? "" : " throws " + String.join(", ", throwsThese)) + ";";
    }

    private static void namesOfPrivateMethods() {
        Method[] all = BarrierMarks.class.getDeclaredMethods();
        for (Method hidden : all) {
            if (Modifier.isPrivate(hidden.getModifiers())) {
                boolean shared = Arrays.stream(all)
                    .anyMatch(each -> Modifier.isPublic(each.getModifiers()) && each.getName().equals(hidden.getName()));
                Check.due("private " + hidden.getName() + " bears a public name", false, () -> shared);
            }
        }
    }

    /** Rule 11. */
    private static void sizes() {
        List<Class<?>> all = new ArrayList<>(List.of(BarrierMarks.class.getDeclaredClasses()));
        all.add(BarrierMarks.class);
        Check.due("at most twelve classes", true, () -> all.size() <= 12);
        for (Class<?> each : all) {
            long fields = Arrays.stream(each.getDeclaredFields())
                .filter(field -> !Modifier.isStatic(field.getModifiers())).count();
            Check.due(each.getName() + " has at most twenty fields", true, () -> fields <= 20);
            Check.due(each.getName() + ": methods take at most seven parameters", true,
                () -> Arrays.stream(each.getDeclaredMethods()).allMatch(method -> method.getParameterCount() <= 7));
        }
    }

    private static void rulesOfTheSource() throws IOException {
        String code = Files.readString(SOURCE).replaceAll("(?s)/\\*.*?\\*/", "").replaceAll("//.*", "");
        String[] banned = {"\\bimport\\b", "\\bpackage\\b", "->", "::", "\\bfinally\\b", "\\bcatch\\b", "\\bsynchronized\\b",
            "\\bassert\\b", "\\bstatic\\s*\\{", "Exact\\b", "\\bhashCode\\b", "\\btoString\\b", "\\bvar\\b", "\\bfloat\\b",
            "\\bdouble\\b", "\\bSystem\\.(?!arraycopy\\b)", "\\bThread\\b", "@", "\\bRandom\\b"};
        for (String each : banned) {
            Check.due("source has " + each, false, () -> Pattern.compile(each).matcher(code).find());
        }
        Check.due("static fields are final", false,
            () -> Pattern.compile("static (?!final)(?!class)\\w+ \\w+ *[=;]").matcher(code).find());
    }
}
