import java.lang.reflect.Field;
import java.lang.reflect.Method;

/** What no calls from outside can reach, looked at inside of the program. */
final class Inside {
    private Inside() {
    }

    /** Whether a trace of more than 20 bodies keeps the first 20 and counts all. */
    static boolean tracesTwenty() {
        try {
            CoinTelescope x = new CoinTelescope();
            Field field = CoinTelescope.class.getDeclaredField("trace");
            field.setAccessible(true);
            Object trace = field.get(x);
            Method add = trace.getClass().getDeclaredMethod("add", int.class, int.class, int.class);
            add.setAccessible(true);
            for (int i = 0; i < 25; i++) {
                add.invoke(trace, 100 + i, 0, 0);
            }
            boolean kept = x.count(6) == 25;
            for (int i = 0; i < 25; i++) {
                kept &= x.trace(i) == (i < 20 ? 100 + i : -1);
            }
            return kept;
        } catch (ReflectiveOperationException e) {
            System.out.println("the program's trace is not where this test looks for it: " + e);
            return false;
        }
    }
}
