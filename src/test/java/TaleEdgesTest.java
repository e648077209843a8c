import java.math.BigInteger;
import java.util.List;
import java.util.function.Supplier;
import java.util.function.ToLongFunction;

/** The edges of promises 7 to 19: readings and tales. */
public final class TaleEdgesTest extends Edges {
    private static final int[] NO_READINGS = {-1, 4, 5, 11, 12, MIN, MAX};
    private static final int[] NO_THINGS = {-1, 3, 4, 5, 32, MIN, MAX};

    private static final List<ToLongFunction<CellarMeter>> QUESTIONS = List.of(
        x -> x.of(1, 11), x -> x.follows(1, 2, 0), x -> x.fits(3, 8), x -> x.tales(), x -> x.may(2),
        x -> x.fewest(-1), x -> x.fewest(3), x -> x.gladdest(-1), x -> x.gladdest(3), x -> x.sure(1, 0),
        x -> x.sure(1, 1), x -> x.alike(), x -> x.secret(), x -> x.part(1, 0), x -> x.part(1, 1),
        x -> x.wires(0), x -> x.wires(1), x -> x.coarse(2, 1), x -> x.judge(0, 0), x -> x.judge(5, 2),
        x -> x.trace(1), x -> x.taken(2, 5), x -> x.count(5), x -> x.read(1, 2));

    public static void main(String[] args) throws IllegalAccessException {
        runAll(TaleEdgesTest.class);
    }

    // ---- promise 7

    @Says(promise = 7, value = "A READING of a meter (0 the first, 1 the second): how many it has.",
        terms = "READINGS 0 .. 11, as they come (0 .. 9999).")
    private static void readingsAsTheyCome() {
        CellarMeter x = things(0, 2);
        holds(x, "take 0 1 9;give 999");
        for (int i = 1; i <= 12; i++) {
            due("first", x.reading(0, i % 2 == 0 ? 0 : 9999), i);
            due("second", x.reading(1, i % 2 == 0 ? 9999 : 0), i);
            due("count", x.count(2) * 100 + x.count(3), i * 101);
        }
        for (int r = 0; r < 12; r++) {
            due("reading " + r, x.may(r), r % 2 == 0 ? 0 : 2);
        }
    }

    @Says(promise = 7, value = "NONE: meter;")
    private static void noSuchMeter() {
        int[] meters = {-1, 2, 3, MIN, MAX};
        for (int meter : meters) {
            refused("meter " + meter, x -> x.reading(meter, 5), NONE);
            refused("meter ahead of watts", x -> x.reading(meter, -1), NONE);
            refused("meter ahead of full", Edges::withAllReadings, x -> x.reading(meter, 5), NONE);
        }
    }

    @Says(promise = 7, value = "BAD: watts;", terms = "(0 .. 9999).")
    private static void wattsBelowAndAbove() {
        int[] watts = {-1, 10000, 10001, MIN, MAX};
        for (int meter = 0; meter < 2; meter++) {
            final int one = meter;
            for (int w : watts) {
                refused("watts " + w, x -> x.reading(one, w), BAD);
                refused("watts ahead of full", Edges::withAllReadings, x -> x.reading(one, w), BAD);
            }
            CellarMeter x = new CellarMeter();
            due("0", x.reading(meter, 0), 1);
            due("9999", x.reading(meter, 9999), 2);
        }
    }

    @Says(promise = 7, value = "FULL: 12.", terms = "READINGS 0 .. 11,")
    private static void aThirteenthReading() {
        refused("first", Edges::withAllReadings, x -> x.reading(0, 0), FULL);
        refused("second", Edges::withAllReadings, x -> x.reading(1, 0), FULL);
        CellarMeter x = new CellarMeter();
        readings(x, 0, times(12, 0));
        due("the second has room", x.reading(1, 0), 1);
        due("the first has none", x.reading(0, 0), FULL);
        x.clear(0);
        due("the first has room again", x.reading(0, 0), 1);
    }

    // ---- promise 8

    @Says(promise = 8, value = "All READINGS of a meter are gone: how many there were.")
    private static void allReadingsGone() {
        CellarMeter x = busy();
        due("first", x.clear(0), 4);
        due("first, empty", x.clear(0), 0);
        due("no reading 0", x.may(0), NONE);
        due("the second stays", x.count(3), 4);
        due("the second", x.clear(1), 4);
        due("the second, empty", x.clear(1), 0);
        due("places begin again", x.reading(0, 3), 1);
        due("reading 0", x.may(0) > 0 ? 1 : 0, 1);
        due("no reading 1", x.may(1), NONE);
        x = withAllReadings();
        due("a full one", x.clear(1), 12);
        due("the first stays", x.count(2), 12);
        due("a full one", x.clear(0), 12);
    }

    @Says(promise = 8, value = "NONE.")
    private static void clearOfNoSuchMeter() {
        int[] meters = {-1, 2, 3, MIN, MAX};
        for (int meter : meters) {
            refused("meter " + meter, x -> x.clear(meter), NONE);
        }
    }

    // ---- promise 9

    @Says(promise = 9, value = "Whether a WAY FITS a READING: 1, 0.",
        terms = {"A WAY of the house: STATES of all THINGS, as one number: that of the first, and m of it times that of the second,",
            "and so on (less than the product of all m)."})
    private static void waysAsNumbers() {
        CellarMeter x = things(0, 2, 1, 3, 4, 4);
        holds(x, "take 0 1 1;take 1 1 10;take 1 2 20;take 2 1 100;take 2 2 200;take 2 3 300");
        due("ways", x.count(1), 24);
        int[] watts = {0, 1, 10, 20, 21, 100, 101, 111, 220, 221, 320, 321};
        int[] ways = {0, 1, 2, 4, 5, 6, 7, 9, 16, 17, 22, 23};
        readings(x, 0, watts);
        for (int r = 0; r < 12; r++) {
            due("one way for " + watts[r], x.may(r), 1);
            due("way of " + watts[r], x.fits(r, ways[r]), 1);
            due("way beside it", x.fits(r, (ways[r] + 1) % 24), 0);
        }
        due("the product of all m", x.fits(0, 24), NONE);
    }

    @Says(promise = 9, value = "NONE: reading, way.", terms = "(less than the product of all m).")
    private static void noSuchReadingOrWay() {
        int[] ways = {-1, 12, 13, 64, MIN, MAX};
        for (int r : NO_READINGS) {
            refused("reading " + r, x -> x.fits(r, 6), NONE);
            refused("both", x -> x.fits(r, -1), NONE);
        }
        for (int w : ways) {
            refused("way " + w, x -> x.fits(0, w), NONE);
        }
        CellarMeter x = things(0, 4, 0, 4, 0, 4);
        readings(x, 0, times(12, 0));
        due("way 0 of reading 0", x.fits(0, 0), 1);
        due("way 63 of reading 11", x.fits(11, 63), 1);
        due("way 64", x.fits(11, 64), NONE);
        due("reading 12", x.fits(12, 63), NONE);
        x = new CellarMeter();
        readings(x, 0, 0, 1);
        due("no things: way 0", x.fits(0, 0), 1);
        due("no things: way 0 takes nothing", x.fits(1, 0), 0);
        due("no things: way 1", x.fits(0, 1), NONE);
    }

    @Says(promise = 9, terms = {"A WAY FITS a READING at a place: what all THINGS TAKE in it, together,",
        "is no farther from the READING than give,"})
    private static void justAsFarAsGive() {
        CellarMeter x = things(0, 2, 0, 2);
        holds(x, "take 0 1 4;take 1 0 0;take 1 1 6;give 3");
        readings(x, 0, 6, 7, 13, 14, 3, 4, 0);
        int[] both = {0, 1, 1, 0, 0, 0, 0};
        int[] neither = {0, 0, 0, 0, 1, 0, 1};
        for (int r = 0; r < 7; r++) {
            due("10 at " + r, x.fits(r, 3), both[r]);
            due("0 at " + r, x.fits(r, 0), neither[r]);
        }
        holds(x, "take 0 0 2;take 1 0 3;take 0 1 9");
        readings(x, 0, 4, 5, 6);
        for (int r = 0; r < 3; r++) {
            due("what is off takes 5, at " + r, x.fits(r, 0), r == 1 ? 1 : 0);
        }
        x = things(0, 2, 0, 2, 0, 2, 0, 2);
        holds(x, "take 0 1 999;take 1 1 999;take 2 1 999;take 3 1 999;give 999");
        readings(x, 0, 4995, 4996, 2997, 2996, 9999, 999, 1000);
        int[] all = {1, 0, 1, 0, 0, 0, 0};
        int[] none = {0, 0, 0, 0, 0, 1, 0};
        for (int r = 0; r < 7; r++) {
            due("3996 at " + r, x.fits(r, 15), all[r]);
            due("nothing at " + r, x.fits(r, 0), none[r]);
        }
    }

    @Says(promise = 9, terms = "no E of a bar holds,")
    private static void eachBarBars() {
        CellarMeter x = things(1, 2, 1, 2);
        holds(x, "bar a=1&b=0;take 0 1 0;bar a=0&b=1;bar r=1");
        readings(x, 0, 0, 0, 0);
        for (int w = 0; w < 4; w++) {
            due("way " + w, x.fits(0, w), w == 0 || w == 3 ? 1 : 0);
            due("at 1, way " + w, x.fits(1, w), 0);
            due("at 2, way " + w, x.fits(2, w), w == 0 || w == 3 ? 1 : 0);
        }
        holds(x, "give 0");
        due("an earlier house bars no more", x.fits(0, 1), 1);
    }

    @Says(promise = 9, terms = "no ALWAYS one (or under that) is in 0.")
    private static void alwaysIsNeverOff() {
        for (int kind = 0; kind < 7; kind++) {
            CellarMeter x = things(0, 2, kind, 2);
            readings(x, 0, 0);
            due("in 0", x.fits(0, 0), kind < 5 ? 1 : 0);
            due("in 0, the other on", x.fits(0, 1), kind < 5 ? 1 : 0);
            due("in 1", x.fits(0, 2), 1);
        }
        CellarMeter x = things(5, 2, 6, 2);
        readings(x, 0, 0);
        due("both are on", x.fits(0, 3), 1);
        due("one alone fits not", x.may(0), 1);
    }

    // ---- promise 10

    @Says(promise = 10, value = "TALES.", terms = {"TALES: how many there are (modulo 1000003;",
        "A TALE: a WAY for each READING that FITS, each THING's STATE FOLLOWING that of the READING before."})
    private static void talesModulo() {
        CellarMeter x = things(0, 4);
        int[] due = {4, 16, 64, 256, 1024, 4096, 16384, 65536, 262144, 48573, 194292, 777168};
        for (int n = 1; n <= 12; n++) {
            x.reading(0, 0);
            due(n + " readings", x.tales(), due[n - 1]);
        }
        x = things(0, 4, 0, 4, 0, 4);
        BigInteger all = BigInteger.ONE;
        for (int n = 1; n <= 12; n++) {
            x.reading(0, 0);
            all = all.multiply(BigInteger.valueOf(64));
            due("64 ways, " + n + " readings", x.tales(), all.mod(BigInteger.valueOf(1000003)).intValue());
        }
    }

    @Says(promise = 10, value = "TALES.", terms = "1, if there are no READINGS);")
    private static void talesWithoutReadings() {
        due("a new one", new CellarMeter().tales(), 1);
        CellarMeter x = things(5, 2, 0, 4);
        holds(x, "bar a<9;take 0 1 5");
        due("things, and all barred", x.tales(), 1);
        readings(x, 1, 3, 4);
        due("the second meter's", x.tales(), 1);
        readings(x, 0, 0);
        due("a reading", x.tales(), 0);
        x.clear(0);
        due("cleared", x.tales(), 1);
        x = new CellarMeter();
        readings(x, 0, 0);
        due("no things, nothing taken", x.tales(), 1);
        readings(x, 0, 0, 1);
        due("no things, something taken", x.tales(), 0);
    }

    @Says(promise = 10, terms = "each THING's STATE FOLLOWING that of the READING before.")
    private static void eachStateFollows() {
        int[] kinds = {0, 1, 2, 3, 4, 5, 6};
        int[] twice = {16, 10, 8, 10, 14, 9, 3};
        for (int kind : kinds) {
            CellarMeter x = things(kind, 4);
            readings(x, 0, 0);
            due("one reading, kind " + kind, x.tales(), kind < 5 ? 4 : 3);
            x.reading(0, 0);
            due("two readings, kind " + kind, x.tales(), twice[kind]);
        }
        CellarMeter x = things(2, 3, 6, 4);
        readings(x, 0, times(12, 0));
        due("a round and a held one", x.tales(), 3 * 2048 * 3);
        holds(x, "take 1 1 1;take 1 2 2;take 1 3 3");
        readings(x, 0, 2, 2, 3);
        due("no one follows", x.tales(), 0);
    }

    @Says(promise = 10, terms = "what is asked changes nothing.")
    private static void whatIsAskedChangesNothing() {
        List<Supplier<CellarMeter>> meters = List.of(Edges::busy, Edges::withAllReadings, TaleEdgesTest::withoutTale);
        for (Supplier<CellarMeter> made : meters) {
            for (int i = 0; i < QUESTIONS.size(); i++) {
                ToLongFunction<CellarMeter> one = QUESTIONS.get(i);
                refused("question " + i, made, one, one.applyAsLong(made.get()));
            }
        }
    }

    @Says(promise = 10, terms = "what is asked changes nothing.")
    private static void noQuestionMindsTheOneBefore() {
        for (ToLongFunction<CellarMeter> one : QUESTIONS) {
            long alone = one.applyAsLong(busy());
            CellarMeter x = busy();
            for (int before = 0; before < QUESTIONS.size(); before++) {
                QUESTIONS.get(before).applyAsLong(x);
                due("question " + QUESTIONS.indexOf(one) + " behind " + before, one.applyAsLong(x), alone);
            }
        }
    }

    // ---- promise 11

    @Says(promise = 11, value = "MAY.", terms = "MAY of a READING: how many WAYS FIT it.")
    private static void allWaysAndNone() {
        CellarMeter x = things(0, 4, 1, 4, 2, 4);
        readings(x, 0, 0, 1);
        due("all", x.may(0), 64);
        due("none", x.may(1), 0);
        holds(x, "bar a=3&b=3&c=3");
        due("all but the last", x.may(0), 63);
        holds(x, "bar !(a=3&b=3&c=3)");
        due("the last alone", x.may(0), 1);
        readings(x, 0, 0, 1);
        holds(x, "take 0 0 1;take 0 1 1;take 0 2 1");
        due("they need be in no tale", x.may(0), 16);
        due("in no tale", x.may(1), 48);
    }

    @Says(promise = 11, value = "NONE.")
    private static void mayOfNoSuchReading() {
        for (int r : NO_READINGS) {
            refused("reading " + r, x -> x.may(r), NONE);
        }
        CellarMeter x = withAllReadings();
        due("reading 11", x.may(11) > 0 ? 1 : 0, 1);
        due("reading 12", x.may(12), NONE);
    }

    // ---- promise 12

    @Says(promise = 12, value = "FEWEST: i -1 how many CHANGES; else the WAY of READING i;",
        terms = "FEWEST: the TALE with the fewest CHANGES (of THINGS, from one READING to the next);")
    private static void changesOfThings() {
        CellarMeter x = things(0, 2, 0, 2, 0, 2, 0, 2);
        due("no readings", x.fewest(-1), 0);
        holds(x, "take 0 1 1;take 1 1 2;take 2 1 4;take 3 1 8");
        for (int i = 0; i < 12; i++) {
            x.reading(0, i % 2 * 15);
            due("all four at once, " + i, x.fewest(-1), 4 * i);
        }
        for (int r = 0; r < 12; r++) {
            due("way of " + r, x.fewest(r), r % 2 * 15);
        }
        readings(x, 0, 9);
        due("one reading, no change", x.fewest(-1), 0);
        due("one reading", x.fewest(0), 9);
        readings(x, 0, 9, 6, 6, 7);
        due("four, none, one", x.fewest(-1), 5);
        x = things(0, 4);
        holds(x, "take 0 1 1;take 0 2 2;take 0 3 3");
        readings(x, 0, 0, 3, 1);
        due("a far state is one change", x.fewest(-1), 2);
    }

    @Says(promise = 12, terms = "of several the first as a row.")
    private static void theFirstOfFewest() {
        CellarMeter x = things(0, 2, 0, 2);
        String takes = "take 0 1 5;take 1 1 5";
        holds(x, takes);
        fewest(x, new int[] {5}, 0, 1);
        fewest(x, new int[] {5, 5, 5}, 0, 1, 1, 1);
        fewest(x, new int[] {5, 0, 5}, 2, 1, 0, 1);
        fewest(x, new int[] {10, 5}, 1, 3, 1);
        fewest(x, new int[] {5, 10, 5}, 2, 1, 3, 1);
        holds(x, takes + ";bar a=1&r=1");
        fewest(x, new int[] {5, 5}, 0, 2, 2);
        fewest(x, new int[] {10, 5, 5}, 1, 3, 2, 2);
        fewest(x, new int[] {5, 0, 5}, 2, 1, 0, 1);
        holds(x, takes + ";bar b=1&r=0;bar a=1&r=1");
        fewest(x, new int[] {5, 5, 5}, 2, 1, 2, 2);
        fewest(x, new int[] {5, 5, 10}, 3, 1, 2, 3);
    }

    private static void fewest(CellarMeter x, int[] watts, int changes, int... ways) {
        readings(x, 0, watts);
        due("changes", x.fewest(-1), changes);
        for (int r = 0; r < ways.length; r++) {
            due("way of " + r, x.fewest(r), ways[r]);
        }
    }

    /**
     * A round of four that has to be in 2 or 3 at the third reading, in 0 at the fourth: 0, then 1 or 0, and
     * so on, fit by themselves, and no tale goes on from there. What is left: 2 or 3, 2 or 3, 3, 0.
     */
    private static CellarMeter withDeadEnds() {
        CellarMeter x = things(2, 4);
        holds(x, "bar r=2&a<2;bar r=3&a>0;glad 0 0 9;glad 0 1 9;glad 0 2 1;take 0 0 7;take 0 1 8;take 0 2 5;give 9");
        readings(x, 0, 7, 7, 7, 7);
        return x;
    }

    @Says(promise = 12, terms = "A TALE: a WAY for each READING that FITS, each THING's STATE FOLLOWING that of the READING before.")
    private static void fewestWithDeadEnds() {
        CellarMeter x = withDeadEnds();
        int[] may = {4, 4, 2, 1};
        int[] ways = {3, 3, 3, 0};
        for (int r = 0; r < 4; r++) {
            due("ways that fit " + r, x.may(r), may[r]);
            due("way of " + r, x.fewest(r), ways[r]);
        }
        due("tales: 1 2 3 0, 2 2 3 0, 2 3 3 0, 3 3 3 0", x.tales(), 4);
        due("changes", x.fewest(-1), 1);
    }

    @Says(promise = 12, value = {"-5: there is no TALE.", "NONE: no such READING."})
    private static void fewestOfNoSuch() {
        int[] none = {-2, -3, 4, 5, 12, MIN, MAX};
        for (int r : none) {
            refused("reading " + r, x -> x.fewest(r), NONE);
            refused("reading ahead of no tale, " + r, TaleEdgesTest::withoutTale, x -> x.fewest(r), NONE);
        }
        for (int i = -1; i < 4; i++) {
            final int r = i;
            refused("no tale, " + i, TaleEdgesTest::withoutTale, x -> x.fewest(r), NO_TALE);
        }
        due("no readings", new CellarMeter().fewest(0), NONE);
        due("no readings", new CellarMeter().fewest(-1), 0);
        CellarMeter x = withAllReadings();
        due("reading 11", x.fewest(11) >= 0 ? 1 : 0, 1);
        due("reading 12", x.fewest(12), NONE);
    }

    /** As busy(), but nothing gives the last of its four readings. */
    private static CellarMeter withoutTale() {
        CellarMeter x = busy();
        readings(x, 0, 3, 11, 15, 9999);
        return x;
    }

    // ---- promise 13

    @Says(promise = 13, value = "GLADDEST: i -1 how GLAD; else the WAY of READING i;",
        terms = "GLADDEST: the TALE with the greatest GLAD of all THINGS and READINGS, together;")
    private static void greatestGlad() {
        CellarMeter x = things(0, 2, 0, 2, 0, 2, 0, 2);
        due("no readings", x.gladdest(-1), 0);
        holds(x, "glad 0 1 999;glad 1 1 999;glad 2 1 999;glad 3 1 999");
        due("no readings", x.gladdest(-1), 0);
        for (int i = 1; i <= 12; i++) {
            x.reading(0, 0);
            due("as glad as can be, " + i, x.gladdest(-1), 3996 * i);
            due("all on", x.gladdest(i - 1), 15);
        }
        holds(x, "glad 0 0 5;glad 1 1 1;glad 0 1 6;bar a=1&r=3;bar b=1&r<11");
        due("each is glad by itself", x.gladdest(-1), 11 * 6 + 5 + 1);
        due("at 3", x.gladdest(3), 0);
        due("at 11", x.gladdest(11), 3);
        x = things(2, 3);
        holds(x, "glad 0 2 7;bar a>0&r=0");
        readings(x, 0, 0, 0, 0);
        due("a round comes there at last", x.gladdest(-1), 7);
        due("by 1", x.gladdest(1), 1);
    }

    @Says(promise = 13, terms = "of several the first as a row.")
    private static void theFirstOfGladdest() {
        CellarMeter x = things(0, 2, 0, 2);
        readings(x, 0, 0, 0, 0);
        for (int r = 0; r < 3; r++) {
            due("nothing is glad: " + r, x.gladdest(r), 0);
        }
        holds(x, "glad 0 1 3;glad 1 1 3;bar a=1&b=1;bar a=1&r=1;bar a=0&b=0&r=2");
        due("glad", x.gladdest(-1), 9);
        due("1 before 2", x.gladdest(0), 1);
        due("2 alone", x.gladdest(1), 2);
        due("1 again", x.gladdest(2), 1);
        x = things(6, 3, 0, 2);
        holds(x, "glad 1 1 1;bar a=1&b=1&r=0;bar a=2&b=1&r=1");
        readings(x, 0, 0, 0);
        due("one of two readings", x.gladdest(-1), 1);
        due("off first, 1 before 5", x.gladdest(0), 1);
        due("on then", x.gladdest(1), 4);
    }

    @Says(promise = 13, terms = "A TALE: a WAY for each READING that FITS, each THING's STATE FOLLOWING that of the READING before.")
    private static void gladdestWithDeadEnds() {
        CellarMeter x = withDeadEnds();
        int[] ways = {1, 2, 3, 0};
        for (int r = 0; r < 4; r++) {
            due("way of " + r, x.gladdest(r), ways[r]);
        }
        due("glad: 9, 1, 0, 9", x.gladdest(-1), 19);
    }

    @Says(promise = 13, value = {"-5: there is no TALE.", "NONE: no such READING."})
    private static void gladdestOfNoSuch() {
        int[] none = {-2, -3, 4, 5, 12, MIN, MAX};
        for (int r : none) {
            refused("reading " + r, x -> x.gladdest(r), NONE);
            refused("reading ahead of no tale, " + r, TaleEdgesTest::withoutTale, x -> x.gladdest(r), NONE);
        }
        for (int i = -1; i < 4; i++) {
            final int r = i;
            refused("no tale, " + i, TaleEdgesTest::withoutTale, x -> x.gladdest(r), NO_TALE);
        }
        due("no readings", new CellarMeter().gladdest(0), NONE);
        due("no readings", new CellarMeter().gladdest(-1), 0);
        CellarMeter x = withAllReadings();
        due("reading 11", x.gladdest(11) >= 0 ? 1 : 0, 1);
        due("reading 12", x.gladdest(12), NONE);
    }

    // ---- promise 14

    @Says(promise = 14, value = "SURE (what 0), ON (1) of a READING.",
        terms = "SURE of a READING: THINGS that are on (not 0) in all TALES, as bits; ON: in some;")
    private static void sureAndOn() {
        CellarMeter x = things(5, 4, 6, 4, 5, 2, 6, 2);
        readings(x, 0, 0);
        due("all are sure", x.sure(0, 0), 15);
        due("all are on", x.sure(0, 1), 15);
        x = things(0, 2, 0, 3, 2, 2);
        holds(x, "take 0 1 5;take 1 1 6;take 1 2 7;take 2 1 9");
        readings(x, 0, 0, 5, 6, 7, 9, 12, 16, 0);
        int[] same = {0, 1, 2, 2, 4, 3, 6, 0};
        for (int r = 0; r < 8; r++) {
            due("sure " + r, x.sure(r, 0), same[r]);
            due("on " + r, x.sure(r, 1), same[r]);
        }
        holds(x, "take 0 1 5;take 1 1 5;take 1 2 5");
        readings(x, 0, 0, 5, 10);
        due("in no tale", x.sure(0, 0) * 8 + x.sure(0, 1), 4);
        due("in some", x.sure(1, 0) * 8 + x.sure(1, 1), 7);
        due("in all", x.sure(2, 0) * 8 + x.sure(2, 1), 3 * 8 + 7);
        x = things(3, 3);
        readings(x, 0, 0, 0, 0);
        holds(x, "bar a<2&r=0;bar !a=1&r=2");
        due("what comes before and behind tells", x.sure(1, 0), 1);
        due("none", new CellarMeter().sure(0, 0), NONE);
        x = withDeadEnds();
        int[] left = {1, 1, 1, 0};
        for (int r = 0; r < 4; r++) {
            due("sure " + r, x.sure(r, 0), left[r]);
            due("on " + r, x.sure(r, 1), left[r]);
        }
    }

    @Says(promise = 14, terms = "if there is no TALE: both 0.")
    private static void sureWithoutATale() {
        for (int i = 0; i < 4; i++) {
            final int r = i;
            refused("sure", TaleEdgesTest::withoutTale, x -> x.sure(r, 0), 0);
            refused("on", TaleEdgesTest::withoutTale, x -> x.sure(r, 1), 0);
        }
        CellarMeter x = things(5, 2);
        readings(x, 0, 0, 1);
        due("an always one is not sure either", x.sure(0, 0), 0);
        due("an always one is not on either", x.sure(0, 1), 0);
    }

    @Says(promise = 14, value = "NONE.")
    private static void sureOfNoSuch() {
        int[] what = {-1, 2, 3, MIN, MAX};
        for (int r : NO_READINGS) {
            refused("reading " + r, x -> x.sure(r, 0), NONE);
            refused("both", x -> x.sure(r, 2), NONE);
        }
        for (int w : what) {
            refused("what " + w, x -> x.sure(0, w), NONE);
            refused("what, no tale", TaleEdgesTest::withoutTale, x -> x.sure(0, w), NONE);
        }
        CellarMeter x = withAllReadings();
        due("reading 11", x.sure(11, 0), 4);
        due("reading 12", x.sure(12, 0), NONE);
    }

    // ---- promise 15

    @Says(promise = 15, value = "ALIKE: how many pairs.", terms = {"ALIKE: pairs of THINGS of one KIND, as many STATES,",
        "that TAKE as much in each, are as GLAD, and of which none stands in an E."})
    private static void pairs() {
        int[] pairs = {0, 0, 1, 3, 6};
        for (int n = 0; n <= 4; n++) {
            CellarMeter x = new CellarMeter();
            for (int i = 0; i < n; i++) {
                x.thing(3, 2);
            }
            due(n + " things", x.alike(), pairs[n]);
        }
        due("a kind under the other", things(1, 3, 4, 3).alike(), 0);
        due("a kind above", things(6, 3, 5, 3).alike(), 0);
        due("another m", things(1, 3, 1, 4).alike(), 0);
        due("two pairs", things(1, 2, 2, 2, 2, 2, 1, 2).alike(), 2);
        alikeWith("", 1);
        alikeWith(";take 0 0 1", 0);
        alikeWith(";take 1 2 1", 0);
        alikeWith(";take 0 2 1;take 1 2 1", 1);
        alikeWith(";take 0 3 1", 1);
        alikeWith(";glad 0 0 1", 0);
        alikeWith(";glad 1 2 1", 0);
        alikeWith(";glad 0 3 1", 1);
        alikeWith(";take 0 0 1;take 0 0 0", 1);
        alikeWith(";bar a=1", 0);
        alikeWith(";bar b=1", 0);
        alikeWith(";bar a=1&b=1", 0);
        alikeWith(";bar r=0|!(c=1&b>99)", 0);
        alikeWith(";bar c=1", 1);
        alikeWith(";bar d=1", 1);
        alikeWith(";bar r=1", 1);
        alikeWith(";bar a=1;take 0 0 0;bar r=0", 0);
        CellarMeter x = things(1, 3, 1, 3);
        holds(x, "bar a=1;take 0 1 1");
        due("barred", x.alike(), 0);
        due("a fault", house(x, "give"), -14);
        due("still barred", x.alike(), 0);
        holds(x, "give 1");
        due("a newer house", x.alike(), 1);
    }

    private static void alikeWith(String clauses, int pairs) {
        CellarMeter x = things(1, 3, 1, 3);
        holds(x, "give 1" + clauses);
        due("with " + clauses, x.alike(), pairs);
    }

    // ---- promise 16

    @Says(promise = 16, value = "SECRET; -5.",
        terms = {"the least n (1 .. 99) with which there is a TALE,", "-5: none such)."})
    private static void oneToNinetyNine() {
        int[] watts = {1, 2, 98, 99, 100, 9999};
        int[] due = {1, 2, 98, 99, NO_TALE, NO_TALE};
        for (int i = 0; i < watts.length; i++) {
            CellarMeter x = new CellarMeter();
            readings(x, 0, watts[i]);
            due("no things, " + watts[i], x.secret(), due[i]);
            x = things(6, 2);
            holds(x, "take 0 1 7");
            readings(x, 0, 7, i == 5 ? 9999 : watts[i] + 7);
            due("beside 7, " + watts[i], x.secret(), due[i]);
        }
        CellarMeter x = new CellarMeter();
        holds(x, "give 4");
        readings(x, 0, 103);
        due("99 and 4", x.secret(), 99);
        readings(x, 0, 104);
        due("99 and 5", x.secret(), NO_TALE);
        readings(x, 0, 7, 8);
        due("no farther than 4 from both", x.secret(), 4);
        readings(x, 0, 5);
        due("1 and 4", x.secret(), 1);
        readings(x, 0, 5, 14);
        due("14 less 4 is too much for 5", x.secret(), NO_TALE);
        readings(x, 0, 5, 13);
        due("as far below as above", x.secret(), 9);
    }

    @Says(promise = 16, terms = "if there is none without (0: there is one;")
    private static void noneIsNeeded() {
        due("a new one", new CellarMeter().secret(), 0);
        CellarMeter x = things(5, 2);
        holds(x, "bar a<9");
        due("no readings", x.secret(), 0);
        readings(x, 1, 50);
        due("the second meter's", x.secret(), 0);
        readings(x, 0, 0);
        due("none helps", x.secret(), NO_TALE);
        due("busy", busy().secret(), 0);
    }

    @Says(promise = 16, terms = "SECRET: a thing that is on or off at each READING as it likes, TAKING n:")
    private static void onOrOffAsItLikes() {
        CellarMeter x = new CellarMeter();
        readings(x, 0, 5, 0, 5, 5, 0, 0, 5, 0, 5, 0, 5, 5);
        due("on and off", x.secret(), 5);
        readings(x, 0, 5, 0, 6);
        due("it takes as much each time", x.secret(), NO_TALE);
        x = things(2, 3);
        holds(x, "take 0 1 10;take 0 2 30");
        readings(x, 0, 0, 30, 30);
        due("what the things take has to follow", x.secret(), 20);
        holds(x, "take 0 1 10;take 0 2 30;bar a=1");
        due("and not be barred", x.secret(), 30);
        x = things(5, 2);
        holds(x, "take 0 1 10");
        readings(x, 0, 9);
        due("nor off, if always on", x.secret(), NO_TALE);
        readings(x, 0, 11);
        due("one more", x.secret(), 1);
    }

    // ---- promise 17

    @Says(promise = 17, value = "PARTS of a THING: what 0 the least, 1 the most;",
        terms = "PARTS of a THING: the least and the most that it TAKES in all READINGS of a TALE together.")
    private static void leastAndMost() {
        CellarMeter x = things(0, 2, 0, 2, 0, 2);
        due("no readings", x.part(0, 0), 0);
        holds(x, "take 0 1 999;take 0 0 1;take 1 0 0;take 2 1 998;give 1");
        due("no readings", x.part(0, 1), 0);
        for (int n = 1; n <= 12; n++) {
            x.reading(0, 999);
            due("least of 0", x.part(0, 0), n);
            due("most of 0", x.part(0, 1), 999 * n);
            due("least of 1", x.part(1, 0), 0);
            due("most of 1", x.part(1, 1), 0);
            due("least of 2", x.part(2, 0), 0);
            due("most of 2", x.part(2, 1), 998 * n);
        }
        x = things(2, 3);
        holds(x, "take 0 1 5;take 0 2 7;give 9");
        readings(x, 0, 0, 0, 0);
        due("least of a round", x.part(0, 0), 0);
        due("most of a round", x.part(0, 1), 21);
        holds(x, "take 0 1 5;take 0 2 7;give 9;bar a=0&r=1;bar a=2&r=0");
        due("least", x.part(0, 0), 10);
        due("most", x.part(0, 1), 19);
        x = withDeadEnds();
        due("least with dead ends: 0 0 0 7", x.part(0, 0), 7);
        due("most with dead ends: 8 5 0 7", x.part(0, 1), 20);
    }

    @Says(promise = 17, value = {"-5: there is no TALE.", "NONE."})
    private static void partOfNoSuch() {
        int[] what = {-1, 2, 3, MIN, MAX};
        for (int t : NO_THINGS) {
            refused("thing " + t, x -> x.part(t, 0), NONE);
            refused("both", x -> x.part(t, -1), NONE);
            refused("thing ahead of no tale", TaleEdgesTest::withoutTale, x -> x.part(t, 1), NONE);
        }
        for (int w : what) {
            refused("what " + w, x -> x.part(0, w), NONE);
            refused("what ahead of no tale", TaleEdgesTest::withoutTale, x -> x.part(0, w), NONE);
        }
        for (int t = 0; t < 3; t++) {
            final int thing = t;
            refused("no tale", TaleEdgesTest::withoutTale, x -> x.part(thing, 0), NO_TALE);
            refused("no tale", TaleEdgesTest::withoutTale, x -> x.part(thing, 1), NO_TALE);
        }
    }

    // ---- promise 18

    @Says(promise = 18, value = "WIRES: what 0 how many sets, 1 the first (-5: none).",
        terms = {"WIRES: a second meter with READINGS of its own,", "sets of THINGS such that there is a TALE",
            "in which what these TAKE is no farther from its READINGS than give: how many, the first as bits."})
    private static void setsOfThings() {
        CellarMeter x = things(0, 2, 0, 2);
        holds(x, "take 0 1 5;take 1 1 7");
        readings(x, 0, 12, 5);
        wired(x, 1, 0, 0, 0);
        wired(x, 1, 1, 5, 5);
        wired(x, 1, 2, 7, 0);
        wired(x, 1, 3, 12, 5);
        wired(x, 0, NO_TALE, 6, 5);
        wired(x, 0, NO_TALE, 7, 5);
        holds(x, "take 0 1 5;take 1 1 7;give 1");
        wired(x, 1, 1, 6, 4);
        wired(x, 1, 1, 4, 6);
        wired(x, 0, NO_TALE, 7, 6);
        wired(x, 1, 3, 13, 6);
        holds(x, "take 0 1 5;take 1 1 5");
        readings(x, 0, 5, 10);
        wired(x, 2, 1, 0, 5);
        wired(x, 2, 1, 5, 5);
        holds(x, "take 0 1 5;take 1 1 5;bar a=1&r=0");
        wired(x, 1, 2, 5, 5);
        readings(x, 0, 5, 9);
        wired(x, 0, NO_TALE, 5, 5);
        x = things(6, 3, 0, 3);
        holds(x, "take 0 1 5;take 0 2 7;take 1 1 7;take 1 2 5");
        readings(x, 0, 12, 12);
        wired(x, 0, NO_TALE, 5, 7);
        wired(x, 2, 1, 7, 7);
        x = things(0, 2, 1, 2, 2, 2, 3, 2);
        holds(x, "give 3");
        readings(x, 0, 0, 3);
        wired(x, 16, 0, 0, 3);
        wired(x, 0, NO_TALE, 0, 4);
    }

    private static void wired(CellarMeter x, int many, int first, int... watts) {
        readings(x, 1, watts);
        due("sets", x.wires(0), many);
        due("the first", x.wires(1), first);
    }

    @Says(promise = 18, value = {"NONE: what;", "STATE: not as many READINGS of the second meter."}, terms = "as many as there are:")
    private static void notAsManyReadings() {
        int[] what = {-1, 2, 3, MIN, MAX};
        for (int w : what) {
            refused("what " + w, x -> x.wires(w), NONE);
            refused("what ahead of readings", TaleEdgesTest::withoutSecond, x -> x.wires(w), NONE);
        }
        for (int i = 0; i < 2; i++) {
            final int w = i;
            refused("none of the second", TaleEdgesTest::withoutSecond, x -> x.wires(w), STATE);
            refused("none of the first", () -> {
                CellarMeter x = busy();
                x.clear(0);
                return x;
            }, x -> x.wires(w), STATE);
            refused("one less", () -> {
                CellarMeter x = busy();
                x.reading(0, 3);
                return x;
            }, x -> x.wires(w), STATE);
            refused("one more", () -> {
                CellarMeter x = busy();
                x.reading(1, 3);
                return x;
            }, x -> x.wires(w), STATE);
            refused("one less, and no tale", () -> {
                CellarMeter x = busy();
                x.reading(0, 9999);
                return x;
            }, x -> x.wires(w), STATE);
        }
        due("as many, all 12", withAllReadings().wires(0) > 0 ? 1 : 0, 1);
    }

    private static CellarMeter withoutSecond() {
        CellarMeter x = busy();
        x.clear(1);
        return x;
    }

    @Says(promise = 18, terms = "as many as there are:")
    private static void noReadingsOfEither() {
        int[] kinds = {0, 5, 6, 0};
        CellarMeter x = new CellarMeter();
        due("no things: the empty set", x.wires(0), 1);
        due("no things: the empty set", x.wires(1), 0);
        for (int i = 0; i < 4; i++) {
            x.thing(kinds[i], 2);
            due("all sets of " + (i + 1), x.wires(0), 2 << i);
            due("the first", x.wires(1), 0);
        }
    }

    // ---- promise 19

    @Says(promise = 19, value = "COARSE; -5.", terms = {"COARSE: of a READING and a THING: the least c (1 .. 60) such that,",
        "it would be neither SURE to be on nor SURE to be off at it,", "-5: none."})
    private static void oneToSixty() {
        CellarMeter x = things(0, 2);
        readings(x, 0, 0);
        int[] takes = {0, 1, 2, 58, 59, 60, 61, 999};
        int[] due = {1, 2, 3, 59, 60, NO_TALE, NO_TALE, NO_TALE};
        for (int i = 0; i < 6; i++) {
            holds(x, "take 0 1 " + takes[i]);
            due("takes " + takes[i], x.coarse(0, 0), due[i]);
        }
        x = things(0, 2);
        readings(x, 0, 0);
        for (int i = 6; i < 8; i++) {
            holds(x, "take 0 1 " + takes[i]);
            due("takes " + takes[i], x.coarse(0, 0), due[i]);
        }
        x = things(5, 3, 6, 2, 0, 2);
        readings(x, 0, 0);
        due("always on", x.coarse(0, 0), NO_TALE);
        due("held on", x.coarse(0, 1), NO_TALE);
        due("as it likes", x.coarse(0, 2), 1);
        holds(x, "bar c=1");
        due("never on", x.coarse(0, 2), NO_TALE);
    }

    @Says(promise = 19, terms = {"if all READINGS were c times their c-th part (cut),", "and give were c less 1 more,"})
    private static void cutAndGiven() {
        CellarMeter x = things(0, 2);
        holds(x, "take 0 1 20");
        readings(x, 0, 9);
        due("9 is 0, and 20 is given", x.coarse(0, 0), 21);
        holds(x, "take 0 1 5");
        due("9 is 0, and 5 is given", x.coarse(0, 0), 10);
        readings(x, 0, 5);
        due("5 is 0", x.coarse(0, 0), 6);
        holds(x, "take 0 1 5;give 1");
        readings(x, 0, 0);
        due("1 and 4", x.coarse(0, 0), 5);
        holds(x, "take 0 1 5;give 5");
        readings(x, 0, 5);
        due("give is enough", x.coarse(0, 0), 1);
        x = things(0, 3);
        holds(x, "take 0 1 5;take 0 2 6");
        readings(x, 0, 5);
        due("on in two states is sure", x.coarse(0, 0), 6);
        x = things(0, 2, 0, 2);
        holds(x, "take 0 1 30;take 1 1 30");
        readings(x, 0, 30, 0);
        due("either", x.coarse(0, 0), 1);
        due("neither", x.coarse(1, 1), 31);
    }

    @Says(promise = 19, terms = "a TALE being there;")
    private static void aTaleIsThere() {
        CellarMeter x = things(0, 2, 6, 2);
        holds(x, "take 1 1 20");
        readings(x, 0, 20);
        due("as it likes", x.coarse(0, 0), 1);
        readings(x, 0, 20, 21);
        due("21 is 20 at 3", x.coarse(0, 0), 2);
        readings(x, 0, 20, 19);
        due("19 is 18 at 2, and at 3", x.coarse(0, 0), 3);
        readings(x, 0, 20, 9999);
        due("no tale", x.coarse(0, 0), NO_TALE);
        readings(x, 0, 9999, 20);
        due("no tale", x.coarse(1, 0), NO_TALE);
        x = withDeadEnds();
        for (int r = 0; r < 4; r++) {
            due("sure, however coarse: " + r, x.coarse(r, 0), NO_TALE);
        }
        x = things(6, 3, 0, 2);
        holds(x, "take 0 1 5;take 0 2 7");
        readings(x, 0, 5, 7);
        due("each reading has its way, at 2 they have one", x.coarse(0, 1), 2);
    }

    @Says(promise = 19, value = "NONE.")
    private static void coarseOfNoSuch() {
        for (int r : NO_READINGS) {
            refused("reading " + r, x -> x.coarse(r, 0), NONE);
            refused("both", x -> x.coarse(r, -1), NONE);
            refused("ahead of no tale", TaleEdgesTest::withoutTale, x -> x.coarse(r, 0), NONE);
        }
        for (int t : NO_THINGS) {
            refused("thing " + t, x -> x.coarse(0, t), NONE);
            refused("ahead of no tale", TaleEdgesTest::withoutTale, x -> x.coarse(0, t), NONE);
        }
        refused("no tale", TaleEdgesTest::withoutTale, x -> x.coarse(0, 0), NO_TALE);
        CellarMeter x = withAllReadings();
        due("reading 11: 3 and 4 are both given at 3", x.coarse(11, 0), 3);
        due("reading 12", x.coarse(12, 0), NONE);
    }
}
