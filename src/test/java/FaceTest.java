import java.lang.reflect.Constructor;
import java.lang.reflect.Executable;
import java.lang.reflect.Field;
import java.lang.reflect.Method;
import java.lang.reflect.Modifier;
import java.util.ArrayList;
import java.util.Arrays;
import java.util.List;
import java.util.TreeSet;

/** The public face is the document's, and there is nothing beside it. */
public final class FaceTest {
    private static final String I = "IndexOutOfBoundsException";
    private static final String A = "IllegalArgumentException";
    private static final String S = "IllegalStateException";

    private static final String[] FACE = {
        "public static final int NONE",
        "public PeriodKernel()",
        "public void task(int, int) " + List.of(I, A, S),
        "public int code(int, int) " + List.of(I, A, S),
        "public void port(int, int, int, int) " + List.of(I, A, S),
        "public void wire(int, int, int, int) " + List.of(I, A, S),
        "public void mode(int, int) " + List.of(I, A, S),
        "public void use(int, int, int) " + List.of(I, A, S),
        "public int guard(int, int, int, int, int) " + List.of(I, A, S),
        "public void sense(int, int) " + List.of(I, S),
        "public void actuate(int, int) " + List.of(I, S),
        "public int start() " + List.of(S),
        "public void sensor(int, int) " + List.of(I),
        "public boolean pick(int) " + List.of(I),
        "public int step(int) " + List.of(A, S),
        "public int advance() " + List.of(S),
        "public int value(int) " + List.of(I),
        "public int actuator(int, int)",
        "public int about(int)",
        "public int job(int, int)",
        "public int event(int, int)",
    };

    public static void main(String[] args) {
        TreeSet<String> want = new TreeSet<>(Arrays.asList(FACE));
        TreeSet<String> got = new TreeSet<>();
        List<String> publicNames = new ArrayList<>();
        List<String> privateNames = new ArrayList<>();
        for (Field field : PeriodKernel.class.getDeclaredFields()) {
            if (!Modifier.isPrivate(field.getModifiers())) {
                got.add(Modifier.toString(field.getModifiers()) + " " + field.getType() + " " + field.getName());
            }
        }
        for (Constructor<?> made : PeriodKernel.class.getDeclaredConstructors()) {
            got.add(text(made, "PeriodKernel"));
        }
        for (Method method : PeriodKernel.class.getDeclaredMethods()) {
            boolean hidden = Modifier.isPrivate(method.getModifiers());
            (hidden ? privateNames : publicNames).add(method.getName());
            if (!hidden) {
                got.add(text(method, method.getReturnType() + " " + method.getName()));
            }
        }
        dueSame(got, want);
        for (Class<?> inside : PeriodKernel.class.getDeclaredClasses()) {
            Checks.due(inside + " is static", Modifier.isStatic(inside.getModifiers()), true);
            for (Method method : inside.getDeclaredMethods()) {
                privateNames.add(method.getName());
            }
        }
        for (String name : privateNames) {
            Checks.due("a private method named as a public one: " + name, publicNames.contains(name), false);
        }
        int modifiers = PeriodKernel.class.getModifiers();
        Checks.due("public final", Modifier.isPublic(modifiers) && Modifier.isFinal(modifiers), true);
        Checks.due("NONE", PeriodKernel.NONE, -1);
        Checks.end();
    }

    private static String text(Executable made, String name) {
        List<String> types = new ArrayList<>();
        for (Class<?> type : made.getParameterTypes()) {
            types.add(type.getName());
        }
        List<String> thrown = new ArrayList<>();
        for (Class<?> type : made.getExceptionTypes()) {
            thrown.add(type.getSimpleName());
        }
        String text = Modifier.toString(made.getModifiers()) + " " + name + "(" + String.join(", ", types) + ")";
        return thrown.isEmpty() ? text : text + " " + thrown;
    }

    private static void dueSame(TreeSet<String> got, TreeSet<String> want) {
        for (String one : got) {
            Checks.due("in the document: " + one, want.contains(one), true);
        }
        for (String one : want) {
            Checks.due("in the class: " + one, got.contains(one), true);
        }
    }
}
