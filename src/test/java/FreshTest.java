import java.lang.reflect.Method;
import java.lang.reflect.Modifier;
import java.util.Random;

/** An answer hangs on the TRAIN alone: a fresh object's first answer is that of one asked much before. */
public final class FreshTest {
    private static final Checks CHECKS = new Checks();
    private static final String MAKERS = "feed|end|train|set|send|undo|image|back|row|write|paste";

    public static void main(String[] args) throws Exception {
        for (int seed = 1000; seed < 1060; seed++) {
            Random random = Checks.randomOf(seed);
            String text = OracleTest.make(random).text();
            CoachAhead used = Checks.of(OracleTest.make(random).text());
            askAll(used, null, random);
            Checks.type(used, text);
            used.train();
            sight(used);
            askAll(used, text, random);
        }
        CHECKS.close("FreshTest");
    }

    private static void sight(CoachAhead x) {
        x.row(0, 0, 2);
        x.write(0, 0, 1);
        x.write(0, 1, 1);
    }

    private static void askAll(CoachAhead used, String text, Random random) throws Exception {
        for (Method method : CoachAhead.class.getDeclaredMethods()) {
            if (!Modifier.isPublic(method.getModifiers()) || method.getName().matches(MAKERS)) {
                continue;
            }
            for (int i = 0; i < 4; i++) {
                Object[] values = new Object[method.getParameterCount()];
                for (int k = 0; k < values.length; k++) {
                    values[k] = random.nextInt(random.nextBoolean() ? 2 : 5);
                }
                int answer = (Integer) method.invoke(used, values);
                if (text != null) {
                    CoachAhead fresh = Checks.of(text);
                    sight(fresh);
                    CHECKS.due(method.getName() + " " + java.util.Arrays.toString(values) + " of " + text,
                        (Integer) method.invoke(fresh, values), answer);
                }
            }
        }
    }
}
