import java.lang.reflect.InvocationTargetException;
import java.lang.reflect.Method;
import java.lang.reflect.Modifier;

/** No call throws, whatever the numbers, in an empty town, in one where all is told, and in a full one. */
public final class AnyArgumentsTest {
    private static final int[] EDGES = {Integer.MIN_VALUE, Integer.MIN_VALUE + 1, -1000, -2, -1, 0, 1, 2, 3, 5, 6, 7, 12, 40,
        61, 400, 1000, Integer.MAX_VALUE - 1, Integer.MAX_VALUE};
    private static final int[] FEW = {Integer.MIN_VALUE, -1, 0, 1, 6, Integer.MAX_VALUE};
    private static final Check check = new Check();

    public static void main(String[] args) throws IllegalAccessException {
        for (int state = 0; state < 4; state++) {
            for (Method method : NotYet.class.getDeclaredMethods()) {
                if (Modifier.isPublic(method.getModifiers())) {
                    callAll(method, made(state));
                }
            }
        }
        check.close();
    }

    private static NotYet made(int state) {
        if (state == 0) {
            return new NotYet();
        }
        if (state == 1) {
            return Probe.town();
        }
        return state == 2 ? full() : least();
    }

    private static NotYet full() {
        NotYet x = new NotYet();
        x.sorts(0, 6);
        x.sorts(1, 6);
        x.set(0, 0);
        x.set(2, 60);
        x.set(3, 99);
        x.set(5, 1);
        for (int side = 0; side < 2; side++) {
            for (int sort = 0; sort < 6; sort++) {
                x.look(side, sort, 999 - 100 * sort, 166);
            }
        }
        for (int k = 0; k < 6; k++) {
            Check.way(x, k, "take 8192*8192*32 when ((((((((week<5))))))));".repeat(8) + "leave 0-1;");
        }
        for (int i = 0; i < 40; i++) {
            x.come(i % 2, i % 6, i % 6);
        }
        for (int i = 0; i < 4; i++) {
            x.weeks(20);
        }
        x.feast(7);
        for (int k = 0; k < 7; k++) {
            for (int j = 0; j < 7; j++) {
                x.likes(0, k, j, 99 - (j - k + 7) % 7);
                x.likes(1, j, k, (j - k + 7) % 7);
            }
            x.price(k, 999);
        }
        Check.tell(x, "not ".repeat(100));
        return x;
    }

    private static NotYet least() {
        NotYet x = new NotYet();
        x.sorts(0, 1);
        x.sorts(1, 1);
        x.set(2, 1);
        x.feast(1);
        return x;
    }

    private static void callAll(Method method, NotYet x) throws IllegalAccessException {
        int n = method.getParameterCount();
        int[] values = n > 3 ? FEW : EDGES;
        int calls = 1;
        for (int i = 0; i < n; i++) {
            calls *= values.length;
        }
        for (int call = 0; call < calls; call++) {
            Object[] with = new Object[n];
            int rest = call;
            for (int i = 0; i < n; i++) {
                with[i] = values[rest % values.length];
                rest /= values.length;
            }
            check.so(method.getName() + " of the call " + call + " answers", answers(method, x, with));
        }
    }

    private static boolean answers(Method method, NotYet x, Object[] with) throws IllegalAccessException {
        try {
            method.invoke(x, with);
            return true;
        } catch (InvocationTargetException thrown) {
            return false;
        }
    }
}
