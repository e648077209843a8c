import java.lang.reflect.InvocationTargetException;
import java.lang.reflect.Method;
import java.util.ArrayList;
import java.util.Arrays;
import java.util.Comparator;
import java.util.List;

/**
 * All calls with any numbers at all, the same on CellarMeter and on PlainMeter: none throws,
 * every answer is the same.
 */
public final class WildTest {
    private static final int RUNS = 300, CALLS = 460;
    private static final int[] WILD = {
        Integer.MIN_VALUE, Integer.MIN_VALUE + 1, -1000003, -100, -14, -5, -2, -1, 0, 1, 2, 3, 4, 5, 6, 7, 8, 9, 10, 11,
        12, 13, 14, 19, 20, 21, 22, 23, 24, 30, 31, 32, 33, 48, 59, 60, 61, 63, 64, 65, 99, 100, 101, 127, 128, 255, 256,
        999, 1000, 9999, 10000, 65535, 65536, 1 << 30, Integer.MAX_VALUE - 1, Integer.MAX_VALUE
    };
    private static final String[] TEXTS = {
        "take 0 1 5;take 1 1 3", "bar a=1&b=1;give 2", "take 0 0 1;glad 0 1 7;bar !(c<1)|r>2", "give 9;", "take 2 3 9;give 99", "x"
    };
    private static long seed = 5;

    public static void main(String[] args) throws IllegalAccessException, NoSuchMethodException {
        List<Method> face = new ArrayList<>();
        for (Method m : CellarMeter.class.getDeclaredMethods()) {
            if (java.lang.reflect.Modifier.isPublic(m.getModifiers())) {
                face.add(m);
            }
        }
        face.sort(Comparator.comparing(Method::getName));
        for (int run = 0; run < RUNS; run++) {
            if (!run(face)) {
                System.exit(1);
            }
        }
        System.out.println(RUNS * CALLS + " wild calls, all answers alike");
    }

    private static int any(int n) {
        seed = seed * 6364136223846793005L + 1442695040888963407L;
        return (int) ((seed >>> 33) % n);
    }

    private static boolean run(List<Method> face) throws IllegalAccessException, NoSuchMethodException {
        CellarMeter x = new CellarMeter();
        PlainMeter p = new PlainMeter();
        List<String> calls = new ArrayList<>();
        int things = any(5);
        for (int i = 0; i < things; i++) {
            int kind = any(7);
            int m = 2 + any(3);
            x.thing(kind, m);
            p.thing(kind, m);
            calls.add("thing(" + kind + ", " + m + ")");
        }
        while (calls.size() < CALLS) {
            if (any(30) == 0) {
                feed(TEXTS[any(TEXTS.length)], x, p, calls);
                continue;
            }
            Method one = face.get(any(face.size()));
            if (one.getName().equals("clear") && any(4) > 0) {
                continue;
            }
            if (!same(one, x, p, calls)) {
                return false;
            }
        }
        return true;
    }

    private static void feed(String text, CellarMeter x, PlainMeter p, List<String> calls) {
        for (int i = 0; i < text.length(); i++) {
            calls.add("feed(" + (int) text.charAt(i) + ", 1) -> " + x.feed(text.charAt(i), 1));
            p.feed(text.charAt(i), 1);
        }
    }

    private static boolean same(Method one, CellarMeter x, PlainMeter p, List<String> calls)
        throws IllegalAccessException, NoSuchMethodException {
        Class<?>[] types = one.getParameterTypes();
        Object[] given = new Object[types.length];
        boolean tame = any(3) > 0;
        for (int i = 0; i < given.length; i++) {
            int v = tame ? any(5) : WILD[any(WILD.length)];
            if (types[i] == long.class) {
                given[i] = any(2) == 0 ? (long) v : v * 4294967299L;
            } else {
                given[i] = v;
            }
        }
        String call = one.getName() + Arrays.toString(given);
        Method plain = PlainMeter.class.getDeclaredMethod(one.getName(), types);
        long due = ((Number) invoke(plain, p, given)).longValue();
        Object got = invoke(one, x, given);
        calls.add(call + " -> " + got);
        boolean same = due == PlainMeter.UNKNOWN || got instanceof Number && ((Number) got).longValue() == due;
        if (!same) {
            System.out.println("after " + calls);
            System.out.println(call + " answered " + got + ", the plain one says " + due);
        }
        return same;
    }

    private static Object invoke(Method one, Object on, Object[] given) throws IllegalAccessException {
        try {
            return one.invoke(on, given);
        } catch (InvocationTargetException e) {
            return e.getCause();
        }
    }
}
