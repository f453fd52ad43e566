import java.lang.reflect.InvocationTargetException;
import java.lang.reflect.Method;
import java.util.ArrayList;
import java.util.Comparator;
import java.util.List;
import java.util.Random;

/** Any calls with any arguments in any state, from fixed seeds: none throws, and two objects answer alike. */
public final class AnyCallTest {
    private static final Checks CHECKS = new Checks();
    private static final int[] ODD = {Integer.MIN_VALUE, Integer.MAX_VALUE, -1, -2, 41, 60, 61, 99, 100, 255, 256, 1199};

    public static void main(String[] args) throws Exception {
        List<Method> methods = new ArrayList<>();
        for (Method method : CoachAhead.class.getDeclaredMethods()) {
            if (java.lang.reflect.Modifier.isPublic(method.getModifiers())) {
                methods.add(method);
            }
        }
        methods.sort(Comparator.comparing(Method::getName));
        for (int seed = 0; seed < 300; seed++) {
            Random random = Checks.randomOf(seed);
            CoachAhead x = new CoachAhead();
            CoachAhead y = new CoachAhead();
            int left = 512;
            if (random.nextInt(8) > 0) {
                String text = OracleTest.make(random).text();
                if (text.length() <= 1180) {
                    left -= Checks.type(x, text) + 2;
                    Checks.type(y, text);
                    x.train();
                    y.train();
                }
            }
            for (int i = 0; i < left; i++) {
                Method method = methods.get(random.nextInt(methods.size()));
                if (method.getName().equals("train") && random.nextInt(8) > 0) {
                    continue;
                }
                Object[] values = values(method, random);
                int first = call(method, x, values);
                CHECKS.holds(method.getName() + " " + java.util.Arrays.toString(values) + " answers alike",
                    first == call(method, y, values));
            }
        }
        CHECKS.close("AnyCallTest");
    }

    private static Object[] values(Method method, Random random) {
        Class<?>[] types = method.getParameterTypes();
        Object[] values = new Object[types.length];
        for (int k = 0; k < types.length; k++) {
            int small = random.nextInt(12) == 0 ? ODD[random.nextInt(ODD.length)] : random.nextInt(k == 0 ? 4 : 9);
            values[k] = types[k] == long.class ? (Object) (long) small : (Object) small;
        }
        return values;
    }

    private static int call(Method method, CoachAhead x, Object[] values) throws IllegalAccessException {
        try {
            return (Integer) method.invoke(x, values);
        } catch (InvocationTargetException thrown) {
            CHECKS.holds(method.getName() + " " + java.util.Arrays.toString(values) + " threw " + thrown.getCause(), false);
            return 0;
        }
    }
}
