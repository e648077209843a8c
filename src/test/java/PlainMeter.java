import java.math.BigInteger;
import java.util.ArrayDeque;
import java.util.ArrayList;
import java.util.HashMap;
import java.util.List;
import java.util.Map;
import java.util.TreeSet;

/**
 * The document once more, told as naively as it goes: every tale is listed, every act is a Java method
 * that overrides another. It shares no code and no idea with CellarMeter, so that a slip in one shows.
 */
final class PlainMeter {
    /** More tales than this are not listed: questions about them are then not compared. */
    static final int MOST_LISTED = 30000;
    static final int UNKNOWN = -777777;

    List<Kind> things = new ArrayList<>();
    List<Integer> text = new ArrayList<>();
    List<Told> houses = new ArrayList<>();
    Told held = new Told();
    List<List<Integer>> meters = new ArrayList<>(List.of(new ArrayList<>(), new ArrayList<>()));
    List<List<Integer>> imaged = null;
    Told imagedHouse = null;
    List<Integer> trace = new ArrayList<>();
    Object[] tapes = new Object[6];

    // ---- kinds and acts, as Java itself dispatches them

    static class Kind {
        int kind, i, m;
        List<Integer> log;
        int takes(int x) { log.add(10); return x + i; }
        int follows(int x) { log.add(11); return takes(x) - m; }
        int tells(int x) { log.add(12); return follows(x) * 2; }
        boolean next(int a, int b) { return true; }
        boolean never(int k) { return false; }
    }

    static class Switch extends Kind {
        @Override int follows(int x) { log.add(20); return super.follows(x) ^ 6; }
        @Override boolean next(int a, int b) { return a == b || b == 0 || a == 0; }
    }

    static class Round extends Kind {
        @Override int takes(int x) { log.add(30); return super.takes(x * 3); }
        @Override boolean next(int a, int b) { return a == b || (a + 1) % m == b; }
    }

    static class Warm extends Kind {
        @Override int tells(int x) { log.add(40); return super.tells(x) + follows(1); }
        @Override boolean next(int a, int b) {
            return b == a || a >= 1 && b == a - 1 || b == 0 || a == 0 && b == m - 1;
        }
    }

    static class Steps extends Switch {
        @Override int takes(int x) { log.add(50); return -super.takes(x); }
        @Override int follows(int x) { log.add(51); return super.follows(x + 1); }
        @Override boolean next(int a, int b) { return super.next(a, b) || Math.abs(a - b) == 1; }
    }

    static class Always extends Kind {
        @Override int tells(int x) { log.add(60); return super.tells(x - i); }
        @Override boolean next(int a, int b) { return a > 0 && b > 0; }
        @Override boolean never(int k) { return k == 0; }
    }

    static class Held extends Always {
        @Override int follows(int x) { log.add(70); return super.follows(x) + super.takes(2); }
        @Override int takes(int x) { log.add(71); return super.takes(x) ^ m; }
        @Override boolean next(int a, int b) { return super.next(a, b) && a == b; }
    }

    static Kind make(int kind) {
        return switch (kind) {
            case 0 -> new Kind();
            case 1 -> new Switch();
            case 2 -> new Round();
            case 3 -> new Warm();
            case 4 -> new Steps();
            case 5 -> new Always();
            default -> new Held();
        };
    }

    static Class<?> classOf(int kind) {
        return make(kind).getClass();
    }

    // ---- houses: a walk over the signs with the goals that are still open

    static final class Told {
        Map<String, Integer> takes = new HashMap<>(), glads = new HashMap<>();
        List<String> bars = new ArrayList<>();
        int give = 0;
    }

    int ways() {
        int all = 1;
        for (Kind k : things) all *= k.m;
        return all;
    }

    int[] states(int way) {
        int[] s = new int[things.size()];
        for (int i = 0; i < s.length; i++) {
            s[i] = way % things.get(i).m;
            way /= things.get(i).m;
        }
        return s;
    }

    /** Whether some house begins with this text: goals are replaced until a sign is due. */
    static boolean begins(String s) {
        return left(s) != null;
    }

    static boolean isWhole(String s) {
        ArrayDeque<String> rest = left(s);
        if (rest == null) return false;
        for (String goal : rest) if (!goal.startsWith("?")) return false;
        return true;
    }

    // Goals: "=x" a sign; "[..]" one of some signs; "?.." may be left out; others are named parts.
    static ArrayDeque<String> left(String s) {
        ArrayDeque<String> goals = new ArrayDeque<>();
        goals.push("clause 1");
        for (int p = 0; p < s.length(); p++) {
            char c = s.charAt(p);
            boolean eaten = false;
            while (!eaten) {
                if (goals.isEmpty()) return null;
                String g = goals.pop();
                if (g.startsWith("=")) {
                    if (g.charAt(1) != c) return null;
                    eaten = true;
                } else if (g.startsWith("[")) {
                    if (g.indexOf(c) < 1) return null;
                    eaten = true;
                } else if (g.startsWith("?more ")) {
                    int n = Integer.parseInt(g.substring(6));
                    if (c == ';') {
                        if (n == 12) return null;
                        goals.push("clause " + (n + 1));
                        eaten = true;
                    } else return null;
                } else if (g.equals("?digit")) {
                    eaten = c >= '0' && c <= '9';
                } else if (g.startsWith("?and ")) {
                    if (c == '&') {
                        goals.push(g);
                        goals.push("F " + g.substring(5));
                        eaten = true;
                    }
                } else if (g.startsWith("?or ")) {
                    if (c == '|') {
                        goals.push(g);
                        goals.push("?and " + g.substring(4));
                        goals.push("F " + g.substring(4));
                        eaten = true;
                    }
                } else if (g.startsWith("clause ")) {
                    goals.push("?more " + g.substring(7));
                    if (c == 't') push(goals, "=a", "=k", "=e", "tkn");
                    else if (c == 'b') push(goals, "=a", "=r", "= ", "E 0");
                    else if (c == 'g') push(goals, "gl/gi");
                    else return null;
                    eaten = true;
                } else if (g.equals("gl/gi")) {
                    if (c == 'l') push(goals, "=a", "=d", "tkn");
                    else if (c == 'i') push(goals, "=v", "=e", "= ", "[0123456789", "?digit", "?digit");
                    else return null;
                    eaten = true;
                } else if (g.equals("tkn")) {
                    push(goals, "= ", "[0123", "= ", "[0123", "= ", "[0123456789", "?digit", "?digit");
                } else if (g.startsWith("E ")) {
                    String d = g.substring(2);
                    push(goals, "F " + d, "?and " + d, "?or " + d);
                } else if (g.startsWith("F ")) {
                    int d = Integer.parseInt(g.substring(2));
                    if (c == '!' || c == '(') {
                        if (d == 4) return null;
                        if (c == '!') push(goals, "F " + (d + 1));
                        else push(goals, "E " + (d + 1), "=)");
                    } else if ("abcdr".indexOf(c) >= 0) {
                        push(goals, "[<=>", "[0123456789", "?digit");
                    } else return null;
                    eaten = true;
                } else throw new IllegalStateException(g);
            }
        }
        return goals;
    }

    static void push(ArrayDeque<String> goals, String... parts) {
        for (int i = parts.length - 1; i >= 0; i--) goals.push(parts[i]);
    }

    static Told told(String s) {
        Told h = new Told();
        for (String clause : s.split(";")) {
            String[] p = clause.split(" ");
            switch (p[0]) {
                case "take" -> h.takes.put(p[1] + p[2], Integer.parseInt(p[3]));
                case "glad" -> h.glads.put(p[1] + p[2], Integer.parseInt(p[3]));
                case "bar" -> h.bars.add(p[1]);
                default -> h.give = Integer.parseInt(p[1]);
            }
        }
        return h;
    }

    /** Splits at the weakest sign outside brackets. */
    boolean holds(String e, int[] s, int r) {
        for (String sign : List.of("|", "&")) {
            int open = 0;
            for (int i = 0; i < e.length(); i++) {
                char c = e.charAt(i);
                open += c == '(' ? 1 : c == ')' ? -1 : 0;
                if (open == 0 && c == sign.charAt(0)) {
                    boolean a = holds(e.substring(0, i), s, r), b = holds(e.substring(i + 1), s, r);
                    return c == '|' ? a || b : a && b;
                }
            }
        }
        if (e.charAt(0) == '!') return !holds(e.substring(1), s, r);
        if (e.charAt(0) == '(') return holds(e.substring(1, e.length() - 1), s, r);
        int t = e.charAt(0) - 'a';
        int v = e.charAt(0) == 'r' ? r : t < s.length ? s[t] : 0;
        int n = Integer.parseInt(e.substring(2));
        return switch (e.charAt(1)) {
            case '<' -> v < n;
            case '=' -> v == n;
            default -> v > n;
        };
    }

    int take(int t, int k) { return held.takes.getOrDefault("" + t + k, 0); }
    int glad(int t, int k) { return held.glads.getOrDefault("" + t + k, 0); }

    int total(int way, int set) {
        int[] s = states(way);
        int all = 0;
        for (int t = 0; t < s.length; t++) if ((set >> t & 1) == 1) all += take(t, s[t]);
        return all;
    }

    boolean open(int r, int way) {
        int[] s = states(way);
        for (int t = 0; t < s.length; t++) if (things.get(t).never(s[t])) return false;
        for (String bar : held.bars) if (holds(bar, s, r)) return false;
        return true;
    }

    boolean next(int v, int w) {
        int[] a = states(v), b = states(w);
        for (int t = 0; t < a.length; t++) if (!things.get(t).next(a[t], b[t])) return false;
        return true;
    }

    interface Fit { boolean at(int r, int way); }

    boolean plainFit(int r, int way) {
        return open(r, way) && Math.abs(total(way, 15) - meters.get(0).get(r)) <= held.give;
    }

    int n() { return meters.get(0).size(); }

    boolean[][] table(Fit fit) {
        boolean[][] can = new boolean[n()][ways()];
        for (int r = 0; r < n(); r++) for (int w = 0; w < ways(); w++) can[r][w] = fit.at(r, w);
        return can;
    }

    /** All tales, or null if there are too many of them to list. */
    List<int[]> list(Fit fit) {
        boolean[][] can = table(fit);
        List<int[]> rows = new ArrayList<>();
        rows.add(new int[0]);
        for (int r = 0; r < n(); r++) {
            List<int[]> longer = new ArrayList<>();
            for (int[] row : rows) {
                for (int w = 0; w < ways(); w++) {
                    if (!can[r][w] || r > 0 && !next(row[r - 1], w)) continue;
                    int[] more = java.util.Arrays.copyOf(row, r + 1);
                    more[r] = w;
                    longer.add(more);
                    if (longer.size() > MOST_LISTED) return null;
                }
            }
            rows = longer;
        }
        return rows;
    }

    /** For each reading the ways that stand in a tale; null if there is none. */
    List<TreeSet<Integer>> standing(Fit fit) {
        boolean[][] can = table(fit);
        List<TreeSet<Integer>> fore = new ArrayList<>();
        for (int r = 0; r < n(); r++) {
            fore.add(new TreeSet<>());
            for (int w = 0; w < ways(); w++) {
                boolean behind = r == 0;
                if (r > 0) for (int v : fore.get(r - 1)) behind |= next(v, w);
                if (behind && can[r][w]) fore.get(r).add(w);
            }
        }
        for (int r = n() - 2; r >= 0; r--) {
            final TreeSet<Integer> later = fore.get(r + 1);
            fore.get(r).removeIf(v -> later.stream().noneMatch(w -> next(v, w)));
        }
        for (TreeSet<Integer> set : fore) if (set.isEmpty()) return null;
        return fore;
    }

    // ---- the face

    int thing(int kind, int m) {
        if (kind < 0 || kind > 6) return -1;
        if (m < 2 || m > 4) return -2;
        if (!meters.get(0).isEmpty() || !meters.get(1).isEmpty()) return -3;
        if (things.size() == 4 || ways() * m > 64) return -4;
        Kind k = make(kind);
        k.kind = kind;
        k.i = things.size();
        k.m = m;
        things.add(k);
        return k.i;
    }

    boolean isThing(int t) { return t >= 0 && t < things.size(); }
    boolean isReading(int r) { return r >= 0 && r < n(); }

    int of(int t, int what) {
        if (!isThing(t)) return -1;
        Kind k = things.get(t);
        if (what == 0) return k.kind;
        if (what == 1) return k.m;
        if (what / 10 == 1 && what % 10 < k.m) return take(t, what % 10);
        if (what / 10 == 2 && what % 10 < k.m) return glad(t, what % 10);
        return -1;
    }

    int follows(int t, int a, int b) {
        if (!isThing(t) || a < 0 || b < 0 || a >= things.get(t).m || b >= things.get(t).m) return -1;
        return things.get(t).next(a, b) ? 1 : 0;
    }

    int feed(int bytes, int n) {
        if (n < 0 || n > 4) return -2;
        if (text.size() + n > 100) return -4;
        int[] all = {bytes >> 24 & 255, bytes >> 16 & 255, bytes >> 8 & 255, bytes & 255};
        for (int i = 4 - n; i < 4; i++) text.add(all[i]);
        return text.size();
    }

    int house() {
        if (houses.size() == 6) return -4;
        StringBuilder b = new StringBuilder();
        for (int c : text) b.append((char) c);
        String s = b.toString();
        text.clear();
        if (!isWhole(s)) {
            int fault = 0;
            while (fault < s.length() && begins(s.substring(0, fault + 1))) fault++;
            return -10 - fault;
        }
        held = told(s);
        houses.add(held);
        return houses.size() - 1;
    }

    int reading(int meter, int watts) {
        if (meter < 0 || meter > 1) return -1;
        if (watts < 0 || watts > 9999) return -2;
        if (meters.get(meter).size() == 12) return -4;
        meters.get(meter).add(watts);
        return meters.get(meter).size();
    }

    int clear(int meter) {
        if (meter < 0 || meter > 1) return -1;
        int were = meters.get(meter).size();
        meters.get(meter).clear();
        return were;
    }

    int fits(int r, int way) {
        if (!isReading(r) || way < 0 || way >= ways()) return -1;
        return plainFit(r, way) ? 1 : 0;
    }

    int tales() {
        boolean[][] can = table(this::plainFit);
        BigInteger[] by = null;
        for (int r = 0; r < n(); r++) {
            BigInteger[] now = new BigInteger[ways()];
            for (int w = 0; w < now.length; w++) {
                now[w] = BigInteger.ZERO;
                if (!can[r][w]) continue;
                if (r == 0) now[w] = BigInteger.ONE;
                else for (int v = 0; v < now.length; v++) if (next(v, w)) now[w] = now[w].add(by[v]);
            }
            by = now;
        }
        if (by == null) return 1;
        BigInteger all = BigInteger.ZERO;
        for (BigInteger b : by) all = all.add(b);
        return all.mod(BigInteger.valueOf(1000003)).intValue();
    }

    int may(int r) {
        if (!isReading(r)) return -1;
        int many = 0;
        for (int w = 0; w < ways(); w++) if (plainFit(r, w)) many++;
        return many;
    }

    interface Worth { int of(int[] row); }

    int best(int i, Worth worth) {
        if (i != -1 && !isReading(i)) return -1;
        if (standing(this::plainFit) == null) return -5;
        List<int[]> all = list(this::plainFit);
        if (all == null) return UNKNOWN;
        int[] best = null;
        for (int[] row : all) {
            if (best == null || worth.of(row) > worth.of(best)
                || worth.of(row) == worth.of(best) && java.util.Arrays.compare(row, best) < 0) best = row;
        }
        return i == -1 ? Math.abs(worth.of(best)) : best[i];
    }

    int changes(int[] row) {
        int many = 0;
        for (int r = 1; r < row.length; r++)
            for (int t = 0; t < things.size(); t++) if (states(row[r])[t] != states(row[r - 1])[t]) many++;
        return many;
    }

    int gladness(int[] row) {
        int all = 0;
        for (int w : row) for (int t = 0; t < things.size(); t++) all += glad(t, states(w)[t]);
        return all;
    }

    int fewest(int i) { return best(i, row -> -changes(row)); }
    int gladdest(int i) { return best(i, this::gladness); }

    int sure(int r, int what) {
        if (!isReading(r) || what < 0 || what > 1) return -1;
        List<TreeSet<Integer>> in = standing(this::plainFit);
        if (in == null) return 0;
        int bits = 0;
        for (int t = 0; t < things.size(); t++) {
            final int thing = t;
            boolean on = what == 0
                ? in.get(r).stream().allMatch(w -> states(w)[thing] > 0)
                : in.get(r).stream().anyMatch(w -> states(w)[thing] > 0);
            if (on) bits += 1 << t;
        }
        return bits;
    }

    int alike() {
        int pairs = 0;
        for (int a = 0; a < things.size(); a++) {
            for (int b = 0; b < a; b++) {
                boolean same = things.get(a).kind == things.get(b).kind && things.get(a).m == things.get(b).m;
                for (int k = 0; k < 4; k++)
                    if (k < things.get(a).m) same &= take(a, k) == take(b, k) && glad(a, k) == glad(b, k);
                for (String e : held.bars)
                    if (e.indexOf('a' + a) >= 0 || e.indexOf('a' + b) >= 0) same = false;
                if (same) pairs++;
            }
        }
        return pairs;
    }

    int secret() {
        for (int n = 0; n <= 99; n++) {
            final int more = n;
            Fit fit = (r, w) -> open(r, w) && (plainFit(r, w)
                || Math.abs(total(w, 15) + more - meters.get(0).get(r)) <= held.give);
            if (standing(fit) != null) return n;
        }
        return -5;
    }

    int part(int t, int what) {
        if (!isThing(t) || what < 0 || what > 1) return -1;
        if (standing(this::plainFit) == null) return -5;
        List<int[]> all = list(this::plainFit);
        if (all == null) return UNKNOWN;
        int least = Integer.MAX_VALUE, most = -1;
        for (int[] row : all) {
            int sum = 0;
            for (int w : row) sum += take(t, states(w)[t]);
            least = Math.min(least, sum);
            most = Math.max(most, sum);
        }
        return what == 0 ? least : most;
    }

    int wires(int what) {
        if (what < 0 || what > 1) return -1;
        if (meters.get(0).size() != meters.get(1).size()) return -3;
        List<Integer> sets = new ArrayList<>();
        for (int set = 0; set < 1 << things.size(); set++) {
            final int s = set;
            Fit fit = (r, w) -> plainFit(r, w)
                && Math.abs(total(w, s) - meters.get(1).get(r)) <= held.give;
            if (standing(fit) != null) sets.add(set);
        }
        return what == 0 ? sets.size() : sets.isEmpty() ? -5 : sets.get(0);
    }

    int coarse(int r, int t) {
        if (!isReading(r) || !isThing(t)) return -1;
        for (int c = 1; c <= 60; c++) {
            final int by = c;
            Fit fit = (q, w) -> open(q, w)
                && Math.abs(total(w, 15) - by * (meters.get(0).get(q) / by)) <= held.give + by - 1;
            List<TreeSet<Integer>> in = standing(fit);
            if (in == null) continue;
            boolean on = false, off = false;
            for (int w : in.get(r)) {
                if (states(w)[t] == 0) off = true;
                else on = true;
            }
            if (on && off) return c;
        }
        return -5;
    }

    int judge(int tape, int i) {
        if (tape < 0 || tape > 5) return -1;
        Object row = tapes[tape];
        if (row != null && !(row instanceof byte[])) return -12;
        for (int r = 0; r < n(); r++) {
            long p = (long) i + r;
            if (row == null || i < 0 || p >= ((byte[]) row).length) return 100 + r;
            byte way = ((byte[]) row)[(int) p];
            if (way < 0 || way >= ways() || !plainFit(r, way)) return r;
            if (r > 0 && !next(((byte[]) row)[(int) p - 1], way)) return r;
        }
        return -5;
    }

    int image() {
        imaged = List.of(new ArrayList<>(meters.get(0)), new ArrayList<>(meters.get(1)));
        imagedHouse = held;
        return n();
    }

    int undo() {
        if (imaged == null) return -3;
        for (int i = 0; i < 2; i++) meters.set(i, new ArrayList<>(imaged.get(i)));
        held = imagedHouse;
        return n();
    }

    int act(int t, int act, int x) {
        trace = new ArrayList<>();
        if (!isThing(t) || act < 0 || act > 2) return 0;
        Kind k = things.get(t);
        k.log = trace;
        return act == 0 ? k.takes(x) : act == 1 ? k.follows(x) : k.tells(x);
    }

    int trace(int i) { return i >= 0 && i < Math.min(20, trace.size()) ? trace.get(i) : -1; }

    int taken(int t, int k) {
        if (k < 0 || k > 6) return -2;
        if (!isThing(t)) return -11;
        return classOf(k).isInstance(things.get(t)) ? things.get(t).kind : -12;
    }

    int count(int what) {
        return switch (what) {
            case 0 -> things.size();
            case 1 -> ways();
            case 2 -> n();
            case 3 -> meters.get(1).size();
            case 4 -> houses.size();
            case 5 -> text.size();
            case 6 -> trace.size();
            default -> -2;
        };
    }

    int tape(int tape, int sort, int n) {
        if (tape < 0 || tape > 5) return -1;
        if (sort < -1 || sort > 4 || sort != -1 && n > 60) return -2;
        if (sort != -1 && n < 0) return -14;
        tapes[tape] = switch (sort) {
            case 0 -> new byte[n];
            case 1 -> new short[n];
            case 2 -> new int[n];
            case 3 -> new long[n];
            case 4 -> new boolean[n];
            default -> null;
        };
        return 1;
    }

    int item(int tape, int i, long v) {
        if (tape < 0 || tape > 5) return -1;
        Object row = tapes[tape];
        if (row == null) return -11;
        if (i < 0 || i >= java.lang.reflect.Array.getLength(row)) return -13;
        if (row instanceof byte[] b) b[i] = (byte) v;
        else if (row instanceof short[] s) s[i] = (short) v;
        else if (row instanceof int[] n) n[i] = (int) v;
        else if (row instanceof long[] l) l[i] = v;
        else ((boolean[]) row)[i] = v != 0;
        return 1;
    }

    long read(int tape, int i) {
        if (tape < 0 || tape > 5 || tapes[tape] == null) return Long.MIN_VALUE;
        Object row = tapes[tape];
        if (i < 0 || i >= java.lang.reflect.Array.getLength(row)) return Long.MIN_VALUE;
        return row instanceof boolean[] b ? b[i] ? 1 : 0 : java.lang.reflect.Array.getLong(row, i);
    }

    int shift(int tape, int i, int other, int j, int n) {
        if (tape < 0 || tape > 5 || other < 0 || other > 5) return -1;
        Object a = tapes[tape], b = tapes[other];
        if (a == null || b == null) return -11;
        if (a.getClass() != b.getClass()) return -12;
        long ends = java.lang.reflect.Array.getLength(a), end = java.lang.reflect.Array.getLength(b);
        if (n < 0 || i < 0 || j < 0 || (long) i + n > ends || (long) j + n > end) return -13;
        System.arraycopy(a, i, b, j, n);
        return n;
    }
}
