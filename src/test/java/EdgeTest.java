import java.lang.reflect.InvocationTargetException;
import java.lang.reflect.Method;
import java.lang.reflect.Modifier;

/** Every method with edges for arguments, on an empty object and on a full one: no call may throw. */
public final class EdgeTest {
    private static final int[] MANY = {
        Integer.MIN_VALUE, -100, -10, -1, 0, 1, 2, 3, 4, 5, 6, 7, 9, 10, 12, 13, 19, 20, 40, 49, 50, 59, 60, 61, 98, 99, 100, 119, 120, 121,
        499, 500, 599, 600, 991, 999, 1000, 1999, 9999, 29999, 50000, Integer.MAX_VALUE,
    };
    private static final int[] FEW = {Integer.MIN_VALUE, -1, 0, 1, 4, 5, 6, 59, 60, Integer.MAX_VALUE};
    private static int wrong = 0;
    private static int calls = 0;

    public static void main(String[] args) throws Exception {
        for (Method m : ThreeHundred.class.getDeclaredMethods()) {
            if (Modifier.isPublic(m.getModifiers())) {
                int n = m.getParameterCount();
                int[] values = n <= 2 ? MANY : FEW;
                all(m, new ThreeHundred(), values, new Object[n], 0);
                all(m, full(), values, new Object[n], 0);
            }
        }
        countsAtTheEnd();
        System.out.println(wrong == 0 ? "no call of " + calls + " threw" : wrong + " calls are not as due");
        if (wrong != 0) {
            System.exit(1);
        }
    }

    private static void all(Method m, ThreeHundred x, int[] values, Object[] args, int k) throws Exception {
        if (k == args.length) {
            calls++;
            try {
                m.invoke(x, args);
            } catch (InvocationTargetException thrown) {
                wrong++;
                if (wrong < 20) {
                    System.out.println(m.getName() + java.util.Arrays.toString(args) + " threw " + thrown.getCause());
                }
            }
            return;
        }
        for (int v : values) {
            if (m.getParameterTypes()[k] == long.class) {
                args[k] = (long) v;
            } else {
                args[k] = v;
            }
            all(m, x, values, args, k + 1);
        }
    }

    private static ThreeHundred full() {
        ThreeHundred x = new ThreeHundred();
        for (int k = 0; k < 20; k++) {
            x.runner(1000 + 10 * k, 1000 * (40 + k) + 10 * k + k % 2);
        }
        for (int k = 1; k < 6; k++) {
            x.shoe(20 + 10 * k, 40 - 20 * k, 0);
        }
        for (int k = 0; k < 5; k++) {
            x.course(1000 + k);
        }
        for (int k = 0; k < 4; k++) {
            x.feed(4, 'z' | '<' << 8 | '5' << 16 | '0' + k << 24);
            x.law();
        }
        x.eyes(60);
        for (int k = 0; k < 6; k++) {
            x.race(10 * (k % 4) + (k + 4) % 5, 10 * (19 * k % 100) + k, k, k);
        }
        for (int k = 0; k < 30; k++) {
            x.feed(4, k);
        }
        for (int k = 0; k < 6; k++) {
            x.point(19 * k, k);
            x.row(k, k % 5, 60);
        }
        for (int k = 0; k < 41; k++) {
            x.mend(k, 0, 100 + k);
        }
        for (int k = 0; k < 50; k++) {
            x.body(k % 8);
        }
        x.keep(5, 49);
        return x;
    }

    private static void countsAtTheEnd() {
        int[] many = {20, 6, 5, 120, 120, 4, 6, 40, 50, 0};
        ThreeHundred x = full();
        for (int what = 0; what < many.length; what++) {
            if (x.count(what) != many[what]) {
                wrong++;
                System.out.println("full: count(" + what + ") is " + x.count(what) + ", due is " + many[what]);
            }
        }
    }
}
