import java.lang.reflect.Method;
import java.util.HashMap;
import java.util.Map;

/** An object of the class, or of the model, whose calls go by their names and are counted. */
final class Target {
    static final int MOST_CALLS = 512, NO_MORE = Integer.MIN_VALUE;
    private static final Map<String, Method> OF_CLASS = methodsOf(PromiseNames.class);
    private static final Map<String, Method> OF_MODEL = methodsOf(Model.class);

    private final Object object;
    private final Map<String, Method> methods;
    private int callsLeft = MOST_CALLS;

    private Target(Object object, Map<String, Method> methods) {
        this.object = object;
        this.methods = methods;
    }

    static Target ofClass() {
        return new Target(new PromiseNames(), OF_CLASS);
    }

    static Target ofModel() {
        return new Target(new Model(), OF_MODEL);
    }

    static boolean has(String name, int arguments) {
        return OF_CLASS.containsKey(key(name, arguments));
    }

    static int howManyArguments(String name) {
        int many = 0;
        while (many <= 5 && !has(name, many)) {
            many++;
        }
        return many;
    }

    void allowOnly(int calls) {
        callsLeft = calls;
    }

    /** Behind its last call nothing is promised of an object, so it is not asked any more. */
    int call(String name, int... args) {
        if (callsLeft <= 0) {
            return NO_MORE;
        }
        callsLeft--;
        Object[] boxed = new Object[args.length];
        for (int i = 0; i < args.length; i++) {
            boxed[i] = args[i];
        }
        try {
            return (Integer) methods.get(key(name, args.length)).invoke(object, boxed);
        } catch (ReflectiveOperationException e) {
            throw new IllegalStateException(name + " threw", e);
        }
    }

    private static Map<String, Method> methodsOf(Class<?> type) {
        Map<String, Method> all = new HashMap<>();
        for (Method m : type.getDeclaredMethods()) {
            if (!java.lang.reflect.Modifier.isPrivate(m.getModifiers())) {
                all.put(key(m.getName(), m.getParameterCount()), m);
            }
        }
        return all;
    }

    private static String key(String name, int arguments) {
        return name + "/" + arguments;
    }
}
