import java.util.ArrayList;
import java.util.List;

/** Long runs of calls, the same on CellarMeter and on PlainMeter; every answer has to be the same. */
public final class OracleTest {
    private static final int RUNS = 700;
    private static long seed;
    private static CellarMeter x;
    private static PlainMeter p;
    private static List<String> calls;
    private static int wrong = 0;
    private static final int[] told = new int[32];

    private static int any(int n) {
        seed = seed * 6364136223846793005L + 1442695040888963407L;
        return (int) ((seed >>> 33) % n);
    }

    private static int oneOf(int... choices) {
        return choices[any(choices.length)];
    }

    private static void same(String call, long got, long want) {
        calls.add(call + " -> " + got);
        if (got == want || want == PlainMeter.UNKNOWN) return;
        wrong++;
        if (wrong > 5) return;
        System.out.println("after " + calls);
        System.out.println("  " + call + " answered " + got + ", the plain one says " + want);
    }

    public static void main(String[] args) {
        for (int run = 0; run < RUNS && wrong < 5; run++) {
            seed = run * 7919L + 17;
            x = new CellarMeter();
            p = new PlainMeter();
            calls = new ArrayList<>();
            if (run % 5 != 4) begin();
            for (int i = 0; calls.size() < 500 && i < 90; i++) step();
        }
        for (int q = 0; q < 10; q++) {
            if (told[q] == 0) {
                wrong++;
                System.out.println("question " + q + " never had a telling answer");
            }
        }
        System.out.println(wrong == 0 ? "all answers alike" : wrong + " answers differ");
        if (wrong > 0) System.exit(1);
    }

    private static void begin() {
        int things = oneOf(0, 1, 2, 3, 3, 4, 4);
        for (int i = 0; i < things; i++) thing(any(7), 2 + any(3));
        if (any(8) > 0) feedAndHouse(text());
        readings();
    }

    private static void thing(int kind, int m) {
        same("thing(" + kind + "," + m + ")", x.thing(kind, m), p.thing(kind, m));
    }

    /** Mostly readings that some tale gives, so that questions have something to tell. */
    private static void readings() {
        int n = any(6) == 0 ? any(13) : any(6) + 1;
        int set = any(16);
        int way = -1;
        for (int r = 0; r < n; r++) {
            List<Integer> open = new ArrayList<>();
            for (int w = 0; w < p.ways(); w++) {
                if (p.open(r, w) && (way < 0 || p.next(way, w))) open.add(w);
            }
            way = open.isEmpty() ? -1 : open.get(any(open.size()));
            int total = way < 0 ? any(30) : p.total(way, 15);
            int partly = way < 0 ? any(30) : p.total(way, set);
            int secret = any(12) == 0 ? any(3) * 4 : 0;
            reading(0, Math.max(0, total + any(p.held.give + 1) - any(p.held.give + 1) + secret));
            if (any(12) > 0) reading(1, Math.max(0, partly + any(p.held.give + 1)));
        }
    }

    private static void reading(int meter, int watts) {
        same("reading(" + meter + "," + watts + ")", x.reading(meter, watts), p.reading(meter, watts));
    }

    private static String text() {
        StringBuilder b = new StringBuilder();
        int clauses = any(15) == 0 ? 11 + any(3) : 1 + any(8);
        boolean small = any(3) > 0;
        for (int i = 0; i < clauses; i++) {
            if (i > 0) b.append(';');
            int sort = any(9);
            if (sort < 5) b.append("take ").append(i < 4 ? i : any(4)).append(' ')
                .append(any(7) == 0 ? 0 : 1 + any(i < 4 ? 2 : 3)).append(' ')
                .append(small ? any(9) : any(200));
            else if (sort < 6) b.append("glad ").append(any(4)).append(' ').append(any(4)).append(' ').append(any(20));
            else if (sort < 8) b.append("bar ").append(expression(any(6)));
            else b.append("give ").append(any(small ? 4 : 30));
        }
        return b.toString();
    }

    private static String expression(int size) {
        if (size == 0) {
            return "" + "abcdr".charAt(any(5)) + "<=>".charAt(any(3)) + oneOf(0, 1, 1, 2, 3, 3, 10);
        }
        switch (any(4)) {
            case 0:
                return "!" + (any(2) == 0 ? "(" + expression(size - 1) + ")" : expression(0));
            case 1:
                return "(" + expression(size - 1) + ")";
            case 2:
                return expression(size / 2) + "&" + expression(size / 3);
            default:
                return expression(size / 2) + "|" + expression(size / 3);
        }
    }

    private static void feedAndHouse(String text) {
        String s = text;
        if (any(5) == 0 && s.length() > 0) {
            int at = any(s.length());
            String in = any(3) == 0 ? "" : "" + " ;&|!()a1tg\u00e9".charAt(any(12));
            s = s.substring(0, at) + in + s.substring(any(2) == 0 ? at : at + 1);
        }
        if (any(9) == 0) s = s.substring(0, any(s.length() + 1));
        int i = 0;
        while (i < s.length()) {
            int n = Math.min(1 + any(4), s.length() - i);
            int bytes = any(2) == 0 ? 0 : -1;
            for (int k = 0; k < n; k++) bytes = bytes << 8 | s.charAt(i + k) & 255;
            same("feed(" + bytes + "," + n + ")", x.feed(bytes, n), p.feed(bytes, n));
            i += n;
        }
        same("house() of '" + s + "'", x.house(), p.house());
    }

    private static void step() {
        int n = p.n();
        int r = any(7) == 0 ? any(15) - 1 : any(n + 1);
        int t = any(8) == 0 ? any(7) - 2 : any(p.things.size() + 1);
        int what = any(8) == 0 ? any(5) - 1 : any(2);
        switch (any(40)) {
            case 0: thing(any(9) - 1, any(5) + 1); break;
            case 1: case 2: int of = oneOf(-1, 0, 1, 2, 9, 10 + any(5), 20 + any(5), 30);
                same("of(" + t + "," + of + ")", x.of(t, of), p.of(t, of)); break;
            case 3: int a = any(6) - 1, b = any(6) - 1;
                same("follows(" + t + "," + a + "," + b + ")", x.follows(t, a, b), p.follows(t, a, b)); break;
            case 4: int f = oneOf(-1, 5, 0, 1, 2), bytes = any(1 << 30);
                same("feed(" + bytes + "," + f + ")", x.feed(bytes, f), p.feed(bytes, f)); break;
            case 5: if (any(3) == 0) feedAndHouse(text()); else same("house()", x.house(), p.house()); break;
            case 6: if (any(4) == 0) reading(any(4) - 1, oneOf(-1, 10000, 9999, any(60), any(12), 0)); break;
            case 7: if (any(3) == 0) { int m = any(4) - 1;
                    same("clear(" + m + ")", x.clear(m), p.clear(m));
                    if (any(2) == 0) readings(); } break;
            case 8: case 9: int w = any(p.ways() + 2) - 1;
                same("fits(" + r + "," + w + ")", x.fits(r, w), p.fits(r, w)); break;
            case 10: ask(0, "tales()", x.tales(), p.tales()); break;
            case 11: ask(1, "may(" + r + ")", x.may(r), p.may(r)); break;
            case 12: case 13: case 14: fewest(r); break;
            case 15: case 16: case 17: gladdest(r); break;
            case 18: case 19: ask(4, "sure(" + r + "," + what + ")", x.sure(r, what), p.sure(r, what)); break;
            case 20: ask(5, "alike()", x.alike(), p.alike()); break;
            case 21: case 22: ask(6, "secret()", x.secret(), p.secret()); break;
            case 23: case 24: case 25:
                ask(7, "part(" + t + "," + what + ")", x.part(t, what), p.part(t, what)); break;
            case 26: case 27: ask(8, "wires(" + what + ")", x.wires(what), p.wires(what)); break;
            case 28: case 29: case 30:
                ask(9, "coarse(" + r + "," + t + ")", x.coarse(r, t), p.coarse(r, t)); break;
            case 31: judge(); break;
            case 32: same("image()", x.image(), p.image()); break;
            case 33: if (any(2) == 0) same("undo()", x.undo(), p.undo()); break;
            case 34: case 35: act(t); break;
            case 36: int k = any(9) - 1; same("taken(" + t + "," + k + ")", x.taken(t, k), p.taken(t, k)); break;
            case 37: int c = any(9) - 1; same("count(" + c + ")", x.count(c), p.count(c)); break;
            default: tapes(); break;
        }
    }

    private static void ask(int question, String call, long got, long want) {
        same(call, got, want);
        if (want > 0) told[question]++;
    }

    private static void fewest(int r) {
        ask(2, "fewest(" + r + ")", x.fewest(r), p.fewest(r));
        same("fewest(-1)", x.fewest(-1), p.fewest(-1));
    }

    private static void gladdest(int r) {
        ask(3, "gladdest(" + r + ")", x.gladdest(r), p.gladdest(r));
        same("gladdest(-1)", x.gladdest(-1), p.gladdest(-1));
    }

    private static void act(int t) {
        int act = any(5) - 1;
        int z = oneOf(0, 1, -3, 7, Integer.MAX_VALUE, Integer.MIN_VALUE, 1 << 30);
        same("act(" + t + "," + act + "," + z + ")", x.act(t, act, z), p.act(t, act, z));
        for (int i = -1; i < 9; i++) same("trace(" + i + ")", x.trace(i), p.trace(i));
        same("count(6)", x.count(6), p.count(6));
    }

    /** Now and then the tape gets a tale that holds, or all but one of it. */
    private static void judge() {
        int tape = any(8) - 1;
        int from = oneOf(-1, 0, 0, 0, 1, 2, Integer.MAX_VALUE, Integer.MIN_VALUE);
        if (any(3) > 0 && tape >= 0 && tape < 6) {
            int size = Math.max(0, p.n() + Math.max(0, Math.min(from, 9)) + any(3) - 1);
            same("tape(" + tape + ",0," + size + ")", x.tape(tape, 0, size), p.tape(tape, 0, size));
            for (int r = 0; r < p.n(); r++) {
                int way = any(10) == 0 ? oneOf(-1, 64, p.ways(), any(64)) : p.fewest(r);
                if (way == PlainMeter.UNKNOWN) way = 0;
                int at = (from > 0 && from < 9 ? from : 0) + r;
                same("item(" + tape + "," + at + "," + way + ")", x.item(tape, at, way), p.item(tape, at, way));
            }
        }
        same("judge(" + tape + "," + from + ")", x.judge(tape, from), p.judge(tape, from));
    }

    private static void tapes() {
        int a = any(8) == 0 ? any(8) - 1 : any(3), b = any(8) == 0 ? any(8) - 1 : any(3);
        int i = any(6) - 1, j = any(6) - 1;
        if (any(9) == 0) i = oneOf(Integer.MAX_VALUE, Integer.MIN_VALUE);
        switch (any(5)) {
            case 0: int sort = any(9) == 0 ? any(9) - 2 : oneOf(0, 1, 2, 3, 4);
                int n = oneOf(-1, 0, 60, 61, 4, 5, 6, 7);
                same("tape(" + a + "," + sort + "," + n + ")", x.tape(a, sort, n), p.tape(a, sort, n));
                break;
            case 1: case 2:
                long v = oneOf(0, 1, -1, 200, 70000, Integer.MIN_VALUE) * (any(2) == 0 ? 1L : 4294967299L);
                same("item(" + a + "," + i + "," + v + ")", x.item(a, i, v), p.item(a, i, v));
                break;
            case 3: int many = oneOf(-1, 0, 1, 2, 3, Integer.MAX_VALUE);
                same("shift(" + a + "," + i + "," + b + "," + j + "," + many + ")",
                    x.shift(a, i, b, j, many), p.shift(a, i, b, j, many));
                for (int q = 0; q < 6; q++) same("read(" + b + "," + q + ")", x.read(b, q), p.read(b, q));
                break;
            default: same("read(" + a + "," + i + ")", x.read(a, i), p.read(a, i)); break;
        }
    }
}
