import java.lang.reflect.InvocationTargetException;
import java.lang.reflect.Method;
import java.lang.reflect.Modifier;
import java.util.Arrays;
import java.util.Comparator;
import java.util.HashMap;
import java.util.Map;

/** A market and its model, which get the same calls and must answer the same. */
final class Twin {
    /** What the document promises for one object. */
    static final int CALLS = 512;
    static final Method[] METHODS = sortedMethods();
    private static final Map<Class<?>, Map<String, Method>> KNOWN = new HashMap<>();

    final Model model = new Model();
    private final SkeinMarket market = new SkeinMarket();
    private final Check check;
    private final String name;
    private final StringBuilder told = new StringBuilder();
    private int calls;
    private boolean sound = true;

    Twin(Check check, String name) {
        this.check = check;
        this.name = name;
    }

    private static Method[] sortedMethods() {
        Method[] methods = Arrays.stream(SkeinMarket.class.getDeclaredMethods())
                .filter(method -> Modifier.isPublic(method.getModifiers())).toArray(Method[]::new);
        Arrays.sort(methods, Comparator.comparing(Method::getName));
        return methods;
    }

    static Method named(String name) {
        return of(SkeinMarket.class, name);
    }

    /** Tests make millions of calls, so a method is looked for only once. */
    private static Method of(Class<?> owner, String name) {
        Map<String, Method> known = KNOWN.computeIfAbsent(owner, key -> new HashMap<>());
        return known.computeIfAbsent(name, key -> find(owner, name));
    }

    private static Method find(Class<?> owner, String name) {
        return Arrays.stream(owner.getDeclaredMethods()).filter(method -> Modifier.isPublic(method.getModifiers()))
                .filter(method -> method.getName().equals(name)).findFirst().orElseThrow();
    }

    /** Calls both, unless the calls are used up or an earlier answer was wrong; answers what the model says. */
    Object call(String method, Object... values) {
        if (calls >= CALLS || !sound) {
            return "no call";
        }
        Object got = outcome(market, method, values);
        Object due = outcome(model, method, values);
        told.append(method).append(Arrays.toString(values)).append(" = ").append(due).append('\n');
        check.same(name + ", call " + calls + ": " + method + Arrays.toString(values), got, due);
        calls++;
        sound = due.equals(got);
        if (!sound) {
            System.out.println(told);
        }
        return due;
    }

    boolean goesOn() {
        return calls < CALLS && sound;
    }

    static Object outcome(Object on, String method, Object[] values) {
        try {
            return of(on.getClass(), method).invoke(on, values);
        } catch (InvocationTargetException thrown) {
            return Check.told(thrown.getCause());
        } catch (IllegalAccessException broken) {
            throw new IllegalStateException(broken);
        }
    }
}
