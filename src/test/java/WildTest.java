import java.lang.reflect.InvocationTargetException;
import java.lang.reflect.Method;
import java.lang.reflect.Modifier;
import java.util.Random;

/** No call throws, whatever its arguments, on an empty object and on full ones. */
public final class WildTest {
    private static final int[] EDGES = {Integer.MIN_VALUE, -13, -2, -1, 0, 1, 2, 5, 6, 11, 12, 14, 15,
        29, 30, 59, 60, 299, 300, 301, 399, 400, 1999, 2000, 9999, 10000, Integer.MAX_VALUE};
    private static final int CALLS_OF_EACH = 3000;
    private static final Checks checks = new Checks();

    public static void main(String[] args) throws IllegalAccessException {
        Random random = new Random(7);
        for (int fullness = 0; fullness < 3; fullness++) {
            CrescentCourt court = courtOf(fullness);
            for (Method method : CrescentCourt.class.getDeclaredMethods()) {
                if (Modifier.isPublic(method.getModifiers())) {
                    callWildly(court, method, random);
                }
            }
        }
        checks.end();
    }

    /** 0: empty; 1: full in every way; 2: full, and every MONTH is set back. */
    private static CrescentCourt courtOf(int fullness) {
        CrescentCourt court = new CrescentCourt();
        if (fullness == 0) {
            return court;
        }
        for (int moon = 0; moon < 14; moon++) {
            court.moon(moon * 700);
        }
        for (int land = 0; land < 6; land++) {
            court.land(4 * land - 10, land);
            court.table(land, 60);
            court.cell(land, 59, 2);
            Checks.readText(court, land, fullness == 1
                    ? "begin if 1+seen*(1+(1+(1+(1+(1+(1+best))))))<=worth;" : "back if 1==1;");
            court.witness(land);
            court.witness(land);
        }
        for (int fact = 0; fact < 300; fact++) {
            court.report(fact % 12, 29 + fact % 3);
        }
        return court;
    }

    private static void callWildly(CrescentCourt court, Method method, Random random)
            throws IllegalAccessException {
        for (int i = 0; i < CALLS_OF_EACH; i++) {
            Object[] arguments = new Object[method.getParameterCount()];
            for (int a = 0; a < arguments.length; a++) {
                arguments[a] = EDGES[random.nextInt(EDGES.length)];
            }
            boolean threw = false;
            try {
                method.invoke(court, arguments);
            } catch (InvocationTargetException e) {
                threw = true;
                System.out.println(method.getName() + " threw " + e.getCause());
            }
            checks.due(method.getName() + java.util.Arrays.toString(arguments), threw, false);
        }
    }
}
