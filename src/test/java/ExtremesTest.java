import java.lang.reflect.InvocationTargetException;
import java.lang.reflect.Method;
import java.lang.reflect.Modifier;
import java.util.Arrays;
import java.util.HashMap;
import java.util.Map;
import java.util.TreeSet;

/**
 * No call ever throws: each by chosen values of all its arguments at once, the least and the greatest int among them,
 * on objects of several kinds; each answer, and fault() behind it, held against that of Model.
 */
public final class ExtremesTest {
    private static final int MIN = Integer.MIN_VALUE, MAX = Integer.MAX_VALUE;
    private static final int[] MANY = {MIN, MIN + 1, -100, -61, -2, -1, 0, 1, 2, 3, 4, 5, 6, 9, 10, 11, 15, 16, 20, 21,
        26, 27, 31, 32, 59, 60, 61, 63, 64, 255, 256, 65536, MAX - 1, MAX};
    /** By how many arguments a call has: the more there are, the fewer values of each. */
    private static final int[][] VALUES = {{}, MANY, MANY, MANY, {MIN, -1, 0, 1, 2, 3, 5, 9, 12, 27, 32, 60, MAX},
        {MIN, -1, 0, 1, 2, 4, 40, 60, MAX}, {-1, 0, 1, 2, 20, MAX}};
    private static final int STATES = 5, CALLS = 500;
    private static final Map<String, Method> OURS = new HashMap<>(), THEIRS = new HashMap<>();

    private WavePass x;
    private Model model;
    private int calls;

    private ExtremesTest() { }

    public static void main(String[] args) throws IllegalAccessException {
        for (Method one : WavePass.class.getDeclaredMethods()) {
            if (Modifier.isPublic(one.getModifiers())) {
                OURS.put(one.getName(), one);
            }
        }
        for (Method one : Model.class.getDeclaredMethods()) {
            if (OURS.containsKey(one.getName()) && one.getReturnType() == long.class) {
                THEIRS.put(one.getName(), one);
            }
        }
        Due.due("calls", OURS.size(), 31);
        Due.due("calls of the model", THEIRS.size(), 31);
        for (String name : new TreeSet<>(OURS.keySet())) {
            for (int state = 0; state < STATES; state++) {
                new ExtremesTest().all(name, state);
            }
        }
        Due.end();
    }

    private void all(String name, int state) throws IllegalAccessException {
        Class<?>[] types = OURS.get(name).getParameterTypes();
        int[] values = VALUES[types.length];
        int[] at = new int[types.length];
        make(state);
        for (boolean more = true; more; more = next(at, types, values.length)) {
            if (calls > CALLS) {
                make(state);
            }
            Object[] a = new Object[types.length];
            for (int k = 0; k < a.length; k++) {
                if (types[k] == boolean.class) {
                    a[k] = at[k] == 1;
                } else {
                    a[k] = values[at[k]];
                }
            }
            call(name, a);
            call("fault");
        }
    }

    /** The next arguments, counted as a number whose digits are places among the values; none behind the last. */
    private static boolean next(int[] at, Class<?>[] types, int values) {
        for (int k = 0; k < at.length; k++) {
            at[k]++;
            if (at[k] < (types[k] == boolean.class ? 2 : values)) {
                return true;
            }
            at[k] = 0;
        }
        return false;
    }

    private void call(String name, Object... a) throws IllegalAccessException {
        calls++;
        long due = answer(THEIRS.get(name), model, a);
        Due.due(name + Arrays.toString(a), answer(OURS.get(name), x, a), due);
    }

    /** What a call throws is an answer that is never due. */
    private static long answer(Method method, Object on, Object... a) throws IllegalAccessException {
        try {
            return ((Number) method.invoke(on, a)).longValue();
        } catch (InvocationTargetException e) {
            System.out.println(method.getName() + Arrays.toString(a) + " throws " + e.getCause());
            return on instanceof WavePass ? -777 : -888;
        }
    }

    // ---- objects of several kinds

    private void make(int state) throws IllegalAccessException {
        x = new WavePass();
        model = new Model();
        calls = 0;
        if (state >= 1) {
            lay(0, 0, Due.FIVE.chars().toArray());
            lay(1, 1, "e3;p123;l456".chars().toArray());
            lay(2, 2, 0, 0, 1, 0, 0, 1, 1, 1, 0, 2, 1, 3);
        }
        if (state == 2) {
            call("coast", 1, 1, 0, 12);
        }
        if (state == 3) {
            call("coast", 0, 0, 0, 27);
            call("reading", 0, 0, 1, true);
            call("reading", 3, 1, 1, true);
            call("tell", 2);
            call("sheet", 3, 2, 60);
        }
        if (state == 4) {
            lay(3, 2, "e9;p999;l000;d123;p321;l555;d909".chars().toArray());
            call("coast", 3, 2, 0, 32);
            for (int k = 0; k < 8; k++) {
                call("reading", k % 6, k % 5, k, k % 2 == 0);
            }
            lay(3, 0, new int[60]);
        }
    }

    private void lay(int k, int lane, int... numbers) throws IllegalAccessException {
        call("sheet", k, lane, numbers.length);
        for (int i = 0; i < numbers.length; i++) {
            call("put", k, i, numbers[i]);
        }
    }
}
