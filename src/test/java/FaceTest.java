import java.io.IOException;
import java.lang.reflect.Constructor;
import java.lang.reflect.Executable;
import java.lang.reflect.Field;
import java.lang.reflect.Method;
import java.lang.reflect.Modifier;
import java.nio.file.Files;
import java.nio.file.Path;
import java.util.ArrayList;
import java.util.List;
import java.util.TreeSet;

/** The public face is the one that stands in the document, and there is nothing beside it. */
public final class FaceTest {
    private static final Path DOCUMENT = Path.of("../shared/DOC.md");

    public static void main(String[] args) throws IOException {
        TreeSet<String> want = faceInTheDocument();
        TreeSet<String> got = new TreeSet<>();
        List<String> publicNames = new ArrayList<>();
        List<String> privateNames = new ArrayList<>();
        for (Field field : PeriodKernel.class.getDeclaredFields()) {
            if (!Modifier.isPrivate(field.getModifiers())) {
                got.add(Modifier.toString(field.getModifiers()) + " " + field.getType() + " " + field.getName());
            }
        }
        for (Constructor<?> made : PeriodKernel.class.getDeclaredConstructors()) {
            got.add(text(made, "PeriodKernel"));
        }
        for (Method method : PeriodKernel.class.getDeclaredMethods()) {
            boolean hidden = Modifier.isPrivate(method.getModifiers());
            (hidden ? privateNames : publicNames).add(method.getName());
            if (!hidden) {
                got.add(text(method, method.getReturnType() + " " + method.getName()));
            }
        }
        dueSame(got, want);
        for (Class<?> inside : PeriodKernel.class.getDeclaredClasses()) {
            Checks.due(inside + " is static", Modifier.isStatic(inside.getModifiers()), true);
            for (Method method : inside.getDeclaredMethods()) {
                privateNames.add(method.getName());
            }
        }
        for (String name : privateNames) {
            Checks.due("a private method named as a public one: " + name, publicNames.contains(name), false);
        }
        int modifiers = PeriodKernel.class.getModifiers();
        Checks.due("public final", Modifier.isPublic(modifiers) && Modifier.isFinal(modifiers), true);
        Checks.due("NONE", PeriodKernel.NONE, -1);
        Checks.end();
    }

    /** Its lines from the class's head to its end, each in the form that text gives to a member. */
    private static TreeSet<String> faceInTheDocument() throws IOException {
        TreeSet<String> face = new TreeSet<>();
        boolean inside = false;
        for (String line : Files.readAllLines(DOCUMENT)) {
            boolean head = line.equals("public final class PeriodKernel {");
            inside = head || inside && !line.equals("}");
            if (inside && !head) {
                face.add(line.strip().replaceAll("int \\w+([,)])", "int$1").replaceAll(" throws (.*);", " [$1]")
                        .replaceAll(" = .*|;", ""));
            }
        }
        Checks.due("members in the document", face.size(), 21);
        return face;
    }

    private static String text(Executable made, String name) {
        List<String> types = new ArrayList<>();
        for (Class<?> type : made.getParameterTypes()) {
            types.add(type.getName());
        }
        List<String> thrown = new ArrayList<>();
        for (Class<?> type : made.getExceptionTypes()) {
            thrown.add(type.getSimpleName());
        }
        String text = Modifier.toString(made.getModifiers()) + " " + name + "(" + String.join(", ", types) + ")";
        return thrown.isEmpty() ? text : text + " " + thrown;
    }

    private static void dueSame(TreeSet<String> got, TreeSet<String> want) {
        for (String one : got) {
            Checks.due("in the document: " + one, want.contains(one), true);
        }
        for (String one : want) {
            Checks.due("in the class: " + one, got.contains(one), true);
        }
    }
}
