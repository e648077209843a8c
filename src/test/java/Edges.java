import java.lang.reflect.InvocationTargetException;
import java.lang.reflect.Method;
import java.util.ArrayList;
import java.util.Comparator;
import java.util.List;
import java.util.function.Supplier;
import java.util.function.ToLongFunction;

/** What the tests of the document's edges share: meters to start from, and a look at all that can be asked. */
abstract class Edges {
    static final int NONE = -1, BAD = -2, STATE = -3, FULL = -4, NO_TALE = -5;
    static final int NOTHING = -11, CAST = -12, PLACE = -13, SIZE = -14;
    static final int MIN = Integer.MIN_VALUE, MAX = Integer.MAX_VALUE;
    static final long NO = Long.MIN_VALUE;

    private static int right = 0;
    private static int wrong = 0;
    private static String now = "";

    // ---- running

    static List<Method> testsOf(Class<?> tests) {
        List<Method> all = new ArrayList<>();
        for (Method m : tests.getDeclaredMethods()) {
            if (m.isAnnotationPresent(Says.class)) {
                all.add(m);
            }
        }
        all.sort(Comparator.comparingInt((Method m) -> m.getAnnotation(Says.class).promise())
            .thenComparing(Method::getName));
        return all;
    }

    static void runAll(Class<?> tests) throws IllegalAccessException {
        List<Method> all = testsOf(tests);
        for (Method m : all) {
            now = "promise " + m.getAnnotation(Says.class).promise() + ", " + m.getName();
            int before = right + wrong;
            try {
                m.setAccessible(true);
                m.invoke(null);
            } catch (InvocationTargetException e) {
                wrong++;
                System.out.println(now + ": " + e.getCause());
            }
            if (right + wrong == before) {
                wrong++;
                System.out.println(now + " looks at nothing");
            }
        }
        System.out.println(all.size() + " tests of edges: " + right + " answers right, " + wrong + " wrong");
        if (wrong > 0 || all.isEmpty()) {
            System.exit(1);
        }
    }

    static void due(String what, long got, long want) {
        if (got == want) {
            right++;
            return;
        }
        wrong++;
        System.out.println(now + ": " + what + " answered " + got + ", due is " + want);
    }

    // ---- meters to start from

    static CellarMeter things(int... kindsAndStates) {
        CellarMeter x = new CellarMeter();
        for (int i = 0; i < kindsAndStates.length; i += 2) {
            due("thing", x.thing(kindsAndStates[i], kindsAndStates[i + 1]), i / 2);
        }
        return x;
    }

    static void feed(CellarMeter x, String text) {
        for (int i = 0; i < text.length(); i += 4) {
            int n = Math.min(4, text.length() - i);
            int bytes = 0;
            for (int k = 0; k < n; k++) {
                bytes = bytes << 8 | text.charAt(i + k);
            }
            due("feed", x.feed(bytes, n) >= n ? 1 : 0, 1);
        }
    }

    static int house(CellarMeter x, String text) {
        feed(x, text);
        return x.house();
    }

    static void holds(CellarMeter x, String text) {
        due("house of '" + text + "'", house(x, text) >= 0 ? 1 : 0, 1);
    }

    static void readings(CellarMeter x, int meter, int... watts) {
        x.clear(meter);
        for (int i = 0; i < watts.length; i++) {
            due("reading", x.reading(meter, watts[i]), i + 1);
        }
    }

    static int[] times(int n, int watts) {
        int[] all = new int[n];
        for (int i = 0; i < n; i++) {
            all[i] = watts;
        }
        return all;
    }

    static void bytes(CellarMeter x, int tape, int... items) {
        due("tape", x.tape(tape, 0, items.length), 1);
        for (int i = 0; i < items.length; i++) {
            due("item", x.item(tape, i, items[i]), 1);
        }
    }

    /** A meter in which there is something of everything, and room for more. */
    static CellarMeter busy() {
        CellarMeter x = new CellarMeter();
        x.thing(1, 2);
        x.thing(2, 3);
        x.thing(5, 2);
        house(x, "take 0 1 5;take 1 1 7;take 1 2 9;take 2 1 3;glad 1 2 4;give 1");
        readings(x, 0, 3, 10, 17);
        readings(x, 1, 0, 7, 9);
        x.image();
        house(x, "take 0 1 4;take 1 1 8;take 1 2 8;take 2 1 3;bar a=1&r=3;give 2");
        readings(x, 0, 3, 11, 15, 11);
        readings(x, 1, 0, 8, 12, 8);
        bytes(x, 0, 6, 8, 9, 8, 6);
        x.tape(1, 3, 3);
        x.item(1, 2, -7);
        x.tape(3, 4, 0);
        x.tape(4, 2, 3);
        x.tape(5, 0, 4);
        x.act(2, 2, 9);
        feed(x, "give 9");
        return x;
    }

    /** As busy(), without readings: things may come. */
    static CellarMeter idle() {
        CellarMeter x = busy();
        x.clear(0);
        x.clear(1);
        return x;
    }

    static CellarMeter withSixHouses() {
        CellarMeter x = busy();
        x.house();
        for (int i = 3; i < 6; i++) {
            house(x, "take 0 1 " + i + ";give 3");
        }
        feed(x, "give 9");
        return x;
    }

    static CellarMeter withFullText() {
        CellarMeter x = busy();
        x.house();
        for (int i = 0; i < 25; i++) {
            x.feed('x', 4);
        }
        return x;
    }

    static CellarMeter withAllReadings() {
        CellarMeter x = busy();
        readings(x, 0, times(12, 3));
        readings(x, 1, times(12, 0));
        return x;
    }

    // ---- a look at all that can be asked

    private static List<Long> look(CellarMeter x) {
        List<Long> all = new ArrayList<>();
        for (int what = 0; what < 7; what++) {
            all.add((long) x.count(what));
        }
        for (int t = 0; t < x.count(0); t++) {
            lookAtThing(x, t, all);
        }
        for (int r = 0; r < Math.min(4, x.count(2)); r++) {
            lookAtReading(x, r, all);
        }
        int[] whole = {x.tales(), x.alike(), x.secret(), x.wires(0), x.wires(1), x.fewest(-1), x.gladdest(-1)};
        for (int one : whole) {
            all.add((long) one);
        }
        for (int i = 0; i < 6; i++) {
            all.add((long) x.trace(i));
        }
        for (int tape = 0; tape < 6; tape++) {
            all.add((long) x.judge(tape, 0));
            for (int i = 0; i < 3; i++) {
                all.add(x.read(tape, i));
            }
        }
        return all;
    }

    private static void lookAtThing(CellarMeter x, int t, List<Long> all) {
        int[] what = {0, 1, 10, 11, 12, 20, 21, 22};
        for (int w : what) {
            all.add((long) x.of(t, w));
        }
        all.add((long) x.part(t, 0));
        all.add((long) x.part(t, 1));
        all.add((long) x.coarse(0, t));
    }

    private static void lookAtReading(CellarMeter x, int r, List<Long> all) {
        int[] whole = {x.may(r), x.fewest(r), x.gladdest(r), x.sure(r, 0), x.sure(r, 1)};
        for (int one : whole) {
            all.add((long) one);
        }
    }

    /** What can be asked now; what the text makes; what the image brings back. */
    private static List<Long> lookThrough(CellarMeter x) {
        List<Long> all = look(x);
        all.add((long) x.house());
        all.add((long) x.of(0, 11));
        all.add((long) x.undo());
        all.addAll(look(x));
        return all;
    }

    /** A call that has its answer, and leaves all as it was. */
    static void refused(String what, Supplier<CellarMeter> made, ToLongFunction<CellarMeter> call, long want) {
        CellarMeter x = made.get();
        due(what, call.applyAsLong(x), want);
        List<Long> got = lookThrough(x);
        List<Long> untouched = lookThrough(made.get());
        due(what + " changes nothing: " + got + " " + untouched, got.equals(untouched) ? 1 : 0, 1);
    }

    static void refused(String what, ToLongFunction<CellarMeter> call, long want) {
        refused(what, Edges::busy, call, want);
    }
}
