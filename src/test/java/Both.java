import java.lang.reflect.InvocationTargetException;
import java.lang.reflect.Method;
import java.util.Arrays;
import java.util.HashMap;
import java.util.Map;

/** A kernel and the model beside it: each call is made on both, and what they answer must be the same. */
final class Both {
    static final int MOST_CALLS = 512;

    private static final Map<String, Method> OF_KERNEL = methods(PeriodKernel.class);
    private static final Map<String, Method> OF_MODEL = methods(Model.class);

    private final PeriodKernel kernel = new PeriodKernel();
    private final Model model = new Model();
    private final String name;
    private int calls;

    Both(String name) {
        this.name = name;
    }

    private static Map<String, Method> methods(Class<?> of) {
        Map<String, Method> all = new HashMap<>();
        for (Method method : of.getDeclaredMethods()) {
            boolean ofInts = true;
            for (Class<?> type : method.getParameterTypes()) {
                ofInts &= type == int.class;
            }
            if (ofInts) {
                all.put(method.getName(), method);
            }
        }
        return all;
    }

    /** How many calls the object may be used for yet. */
    int callsLeft() {
        return MOST_CALLS - calls;
    }

    /** What the model answers; a call that the object is no more used for is not made. */
    String call(String method, Integer... arguments) {
        if (calls == MOST_CALLS) {
            return "";
        }
        calls++;
        String want = answer(OF_MODEL.get(method), model, arguments);
        String got = answer(OF_KERNEL.get(method), kernel, arguments);
        if (!got.equals(want)) {
            Checks.isWrong(name + ", call " + calls + ": " + method + Arrays.toString(arguments)
                    + " answered " + got + ", due is " + want);
        }
        return want;
    }

    private static String answer(Method method, Object on, Integer[] arguments) {
        try {
            return String.valueOf(method.invoke(on, (Object[]) arguments));
        } catch (InvocationTargetException e) {
            return "throws." + e.getCause().getClass().getName();
        } catch (IllegalAccessException e) {
            throw new IllegalStateException(e);
        }
    }
}
