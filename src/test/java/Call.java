import java.lang.reflect.Method;
import java.lang.reflect.Modifier;
import java.util.Arrays;
import java.util.HashMap;
import java.util.Map;

/** A call of the face as a name and numbers, so that the same one can be made on the class and on a Model. */
record Call(String name, long... args) {
    private static final Map<String, Method> OF_CLASS = callsOf(DroppingBalls.class);
    private static final Map<String, Method> OF_MODEL = callsOf(Model.class);

    private static Map<String, Method> callsOf(Class<?> kind) {
        Map<String, Method> calls = new HashMap<>();
        for (Method m : kind.getDeclaredMethods()) {
            if (!Modifier.isPrivate(m.getModifiers())) {
                calls.put(m.getName() + m.getParameterCount(), m);
            }
        }
        return calls;
    }

    long on(DroppingBalls x) {
        return answer(OF_CLASS, x);
    }

    long on(Model model) {
        return answer(OF_MODEL, model);
    }

    private long answer(Map<String, Method> calls, Object asked) {
        Method m = calls.get(name + args.length);
        Object[] given = new Object[args.length];
        for (int i = 0; i < args.length; i++) {
            if (name.equals("letters")) {
                given[i] = args[i];
            } else {
                given[i] = (int) args[i];
            }
        }
        try {
            return ((Number) m.invoke(asked, given)).longValue();
        } catch (ReflectiveOperationException e) {
            throw new IllegalStateException(this + " threw", e);
        }
    }

    /** The call with one number more. */
    Call with(long arg) {
        long[] more = Arrays.copyOf(args, args.length + 1);
        more[args.length] = arg;
        return new Call(name, more);
    }

    @Override public String toString() {
        StringBuilder text = new StringBuilder(name).append('(');
        for (int i = 0; i < args.length; i++) {
            text.append(i > 0 ? ", " : "").append(args[i]);
        }
        return text.append(')').toString();
    }
}
