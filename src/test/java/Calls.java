import java.lang.reflect.InvocationTargetException;
import java.lang.reflect.Method;
import java.util.Arrays;

/** Calls by their names, so that a table can tell them. */
final class Calls {
    private Calls() {
    }

    static long ask(ThunderCasks x, String name, int... p) {
        Class<?>[] types = new Class<?>[p.length];
        Arrays.fill(types, int.class);
        try {
            Method m = ThunderCasks.class.getMethod(name, types);
            return ((Number) m.invoke(x, Arrays.stream(p).boxed().toArray())).longValue();
        } catch (InvocationTargetException e) {
            throw new IllegalStateException(told(name, p) + " threw", e.getCause());
        } catch (ReflectiveOperationException e) {
            throw new IllegalStateException(told(name, p), e);
        }
    }

    static String told(String name, int... p) {
        String all = Arrays.toString(p);
        return name + "(" + all.substring(1, all.length() - 1) + ")";
    }
}
