/** The edges of promises 20 to 30: judging, the image, acts, tapes. */
public final class TapeEdgesTest extends Edges {
    private static final int[] NO_TAPES = {-1, 6, 7, 32, MIN, MAX};
    private static final int[] NO_THINGS = {-1, 3, 4, 5, 32, MIN, MAX};

    public static void main(String[] args) throws IllegalAccessException {
        runAll(TapeEdgesTest.class);
    }

    // ---- promise 20

    @Says(promise = 20, value = "JUDGED from place i of a TAPE on.",
        terms = {"A TALE told by a row of bytes, from a place on: a WAY for each READING:",
            "JUDGED: the first READING for which it is none of a TALE (FITS not, or does not FOLLOW the one before);", "-5: all are;"})
    private static void judgedReadings() {
        CellarMeter x = things(2, 3, 0, 2);
        holds(x, "take 0 1 5;take 0 2 5;take 1 1 5;bar b=1&r=2");
        readings(x, 0, 5, 5, 5, 0);
        judged(x, 0, NO_TALE, 1, 2, 2, 0);
        judged(x, 0, NO_TALE, 3, 1, 2, 0, -1);
        judged(x, 0, 0, 0, 2, 2, 0);
        judged(x, 0, 0, 6, 2, 2, 0);
        judged(x, 0, 0, 127, 2, 2, 0);
        judged(x, 0, 0, -1, 2, 2, 0);
        judged(x, 0, 0, -128, 2, 2, 0);
        judged(x, 0, 1, 2, 1, 2, 0);
        judged(x, 0, 1, 1, 4, 2, 0);
        judged(x, 0, 2, 3, 3, 3, 0);
        judged(x, 0, 2, 3, 3, 2, 1);
        judged(x, 0, 3, 3, 3, 1, 1);
        judged(x, 0, 3, 1, 1, 1, 0);
        judged(x, 0, 3, 1, 2, 2, 2);
        judged(x, 0, 0, 0, 0, 3, 5);
        x = things(0, 4, 0, 4, 0, 4);
        readings(x, 0, 0, 0, 0);
        judged(x, 0, NO_TALE, 0, 63, 1);
        judged(x, 0, 1, 0, 64, 1);
        judged(x, 0, 2, 63, 63, -64);
        x = new CellarMeter();
        readings(x, 0, 0);
        judged(x, 0, NO_TALE, 0);
        judged(x, 0, 0, 1);
        x = things(5, 2);
        readings(x, 0, 0);
        judged(x, 0, 0, 0);
        judged(x, 0, NO_TALE, 1);
    }

    private static void judged(CellarMeter x, int from, int want, int... row) {
        bytes(x, 5, row);
        due("judged from " + from, x.judge(5, from), want);
    }

    @Says(promise = 20, value = "from place i of a TAPE on.",
        terms = {"100 and how many were looked at, if the next one is beyond the row", "(or at a place below 0,"})
    private static void judgedBeyondTheRow() {
        CellarMeter x = things(0, 2, 0, 2);
        holds(x, "bar a=1");
        readings(x, 0, 0, 0, 0);
        judged(x, 0, 100);
        judged(x, 0, 101, 2);
        judged(x, 0, 102, 2, 0);
        judged(x, 0, NO_TALE, 2, 0, 2);
        judged(x, 0, 1, 2, 1);
        judged(x, 0, 0, 1);
        judged(x, 1, 102, 2, 2, 2);
        judged(x, 1, NO_TALE, 1, 2, 2, 2);
        judged(x, 3, 100, 2, 2, 2);
        judged(x, 4, 100, 2, 2, 2);
        judged(x, -1, 100, 2, 2, 2, 2);
        judged(x, -3, 100, 2, 2, 2, 2);
        judged(x, MIN, 100, 2, 2, 2);
        judged(x, MAX, 100, 2, 2, 2);
        judged(x, MAX - 1, 100, 2, 2, 2);
        judged(x, MIN + 1, 100, 2, 2, 2);
        bytes(x, 5, times(60, 2));
        due("the last three of 60", x.judge(5, 57), NO_TALE);
        due("the last two of 60", x.judge(5, 58), 102);
        due("the last of 60", x.judge(5, 59), 101);
        due("behind 60", x.judge(5, 60), 100);
        readings(x, 0, times(12, 0));
        due("the last twelve", x.judge(5, 48), NO_TALE);
        due("the last eleven", x.judge(5, 49), 111);
    }

    @Says(promise = 20, terms = "or the TAPE holds nothing).")
    private static void judgedOnNothing() {
        CellarMeter x = busy();
        due("never a row", x.judge(2, 0), 100);
        due("never a row, below 0", x.judge(2, -1), 100);
        x.tape(0, -1, 0);
        due("a row no more", x.judge(0, 0), 100);
        x.tape(1, -1, 0);
        due("longs no more", x.judge(1, 0), 100);
    }

    @Says(promise = 20, terms = "-5: all are;")
    private static void judgedWithoutReadings() {
        CellarMeter x = busy();
        x.clear(0);
        due("a row", x.judge(0, 0), NO_TALE);
        due("nothing", x.judge(2, 0), NO_TALE);
        due("behind the row", x.judge(0, 5), NO_TALE);
        due("below 0", x.judge(0, -1), NO_TALE);
        due("longs", x.judge(1, 0), CAST);
        due("tape 6", x.judge(6, 0), NONE);
    }

    @Says(promise = 20, value = {"NONE: tape;", "CAST: it is no row of bytes."}, terms = "CAST (-12): another sort or KIND;")
    private static void judgedOnAnotherSort() {
        for (int tape : NO_TAPES) {
            refused("tape " + tape, x -> x.judge(tape, 0), NONE);
            refused("tape and place", x -> x.judge(tape, -1), NONE);
        }
        for (int s = 1; s < 5; s++) {
            final int sort = s;
            for (int n = 0; n <= 60; n += 60) {
                final int size = n;
                refused("sort " + sort, () -> {
                    CellarMeter x = busy();
                    x.tape(0, sort, size);
                    return x;
                }, x -> x.judge(0, 0), CAST);
            }
            CellarMeter x = busy();
            x.tape(0, sort, 4);
            due("ahead of the place", x.judge(0, -1), CAST);
            due("ahead of the row's end", x.judge(0, 4), CAST);
            x.tape(0, 0, 4);
            due("bytes again", x.judge(0, 0), 0);
        }
    }

    // ---- promises 21 and 22

    @Says(promise = 21, value = "THE IMAGE is taken: how many READINGS the first meter has.",
        terms = "THE IMAGE: READINGS of both meters, and which HOUSE holds (THINGS stay).")
    private static void imagesOfNothingAndOfAll() {
        CellarMeter x = new CellarMeter();
        due("nothing", x.image(), 0);
        readings(x, 1, 1, 2);
        due("the second meter's do not count", x.image(), 0);
        for (int n = 1; n <= 12; n++) {
            x.reading(0, n);
            due("readings", x.image(), n);
        }
        x.clear(0);
        x.clear(1);
        due("undo", x.undo(), 12);
        due("first", x.count(2), 12);
        due("second", x.count(3), 2);
        due("an image anew", x.image(), 12);
        due("text and houses", x.count(4) + x.count(5), 0);
    }

    @Says(promise = 22, value = "All is as THE IMAGE: how many READINGS the first meter has.")
    private static void theLatestImage() {
        CellarMeter x = things(0, 2);
        holds(x, "take 0 1 5");
        readings(x, 0, 5);
        readings(x, 1, 1);
        x.image();
        holds(x, "take 0 1 6");
        readings(x, 0, 6, 0);
        readings(x, 1, 6, 6, 6);
        x.image();
        readings(x, 0, 7, 7, 7);
        x.clear(1);
        holds(x, "take 0 1 7");
        for (int i = 0; i < 3; i++) {
            due("undo", x.undo(), 2);
            due("again", x.undo(), 2);
            due("first", x.count(2), 2);
            due("second", x.count(3), 3);
            due("house", x.of(0, 11), 6);
            due("6 at 0", x.fits(0, 1) * 2 + x.fits(0, 0), 2);
            due("0 at 1", x.fits(1, 1) * 2 + x.fits(1, 0), 1);
            x.clear(0);
            x.reading(0, 9);
            x.clear(1);
            house(x, "?");
        }
        due("houses are not undone", x.count(4), 3);
        due("the next house's number", house(x, "take 0 1 8"), 3);
        due("undo", x.undo(), 2);
        due("house", x.of(0, 11), 6);
        readings(x, 1, 6, 0);
        due("the second meter's readings", x.wires(1), 1);
        x.undo();
        x.reading(0, 6);
        due("the second meter's readings came back", x.wires(0), 0);
        due("as they were", x.count(3), 3);
    }

    @Says(promise = 22, value = "All is as THE IMAGE:", terms = "(THINGS stay).")
    private static void whatIsNotUndone() {
        CellarMeter x = things(0, 2);
        readings(x, 0, 0);
        x.image();
        x.clear(0);
        due("a thing", x.thing(5, 3), 1);
        holds(x, "take 0 1 5;take 1 1 6");
        bytes(x, 0, 1, 2, 3);
        x.act(1, 1, 5);
        x.feed('g', 1);
        due("undo", x.undo(), 1);
        due("things stay", x.count(0), 2);
        due("ways", x.count(1), 6);
        due("no house held", x.of(0, 11), 0);
        due("houses stay", x.count(4), 1);
        due("the text stays", x.count(5), 1);
        due("tapes stay", x.read(0, 2), 3);
        due("the trace stays", x.trace(0), 11);
        due("the reading is told of both things", x.may(0), 4);
        due("readings are there again", x.thing(0, 2), STATE);
    }

    @Says(promise = 22, value = "STATE: there is none.")
    private static void undoWithoutImage() {
        refused("a new one", CellarMeter::new, x -> x.undo(), STATE);
        refused("without an image", () -> {
            CellarMeter x = things(0, 2, 5, 3);
            holds(x, "take 0 1 5;glad 0 1 2;give 2");
            readings(x, 0, 5, 0);
            readings(x, 1, 5, 0);
            feed(x, "give");
            return x;
        }, x -> x.undo(), STATE);
        CellarMeter x = new CellarMeter();
        due("twice", x.undo(), STATE);
        due("twice", x.undo(), STATE);
        x.image();
        due("an image", x.undo(), 0);
    }

    // ---- promise 23

    @Says(promise = 23, value = "An ACT (0 takes, 1 follows, 2 tells) of a THING with x.",
        terms = {"ACTS of a THING with x (wrapping): 0 takes, 1 follows, 2 tells; i its number, m how many STATES it has.",
            "THING: 10 takes: x + i. 11 follows: takes(x) - m. 12 tells: follows(x) * 2.",
            "BODIES:", "SWITCH: 20 follows: super.follows(x) ^ 6.", "ROUND: 30 takes: super.takes(x * 3).",
            "WARM: 40 tells: super.tells(x) + follows(1).", "STEPS: 50 takes: -super.takes(x). 51 follows: super.follows(x + 1).",
            "ALWAYS: 60 tells: super.tells(x - i).", "HELD: 70 follows: super.follows(x) + super.takes(2). 71 takes: super.takes(x) ^ m."})
    private static void actsWrap() {
        int[] xs = {0, 1, -1, 7, MAX, MIN, MAX - 1, MIN + 1, 1 << 30, -(1 << 30), 715827883, -715827883};
        for (int i = 0; i < 3; i++) {
            for (int m = 2; m <= 3; m++) {
                for (int x : xs) {
                    acts(0, i, m, x, x + i, x + i - m, (x + i - m) * 2);
                    acts(1, i, m, x, x + i, x + i - m ^ 6, (x + i - m ^ 6) * 2);
                    acts(2, i, m, x, x * 3 + i, x * 3 + i - m, (x * 3 + i - m) * 2);
                    acts(3, i, m, x, x + i, x + i - m, (x + i - m) * 2 + 1 + i - m);
                    int steps = -(x + 1 + i) - m ^ 6;
                    acts(4, i, m, x, -(x + i), steps, steps * 2);
                    acts(5, i, m, x, x + i, x + i - m, (x - i + i - m) * 2);
                    int told = (x ^ m) - m + 2 + i;
                    acts(6, i, m, x, x + i ^ m, (x + i ^ m) - m + 2 + i, told * 2);
                }
            }
        }
    }

    /** What the three acts of thing i, of a kind with m states, answer for x. */
    private static void acts(int kind, int i, int m, int x, int takes, int follows, int tells) {
        CellarMeter one = new CellarMeter();
        for (int before = 0; before < i; before++) {
            one.thing(0, 2);
        }
        due("thing", one.thing(kind, m), i);
        String what = "kind " + kind + ", thing " + i + " of " + m + ", x " + x;
        due("takes of " + what, one.act(i, 0, x), takes);
        due("follows of " + what, one.act(i, 1, x), follows);
        due("tells of " + what, one.act(i, 2, x), tells);
    }

    @Says(promise = 23, value = "0, and no TRACE then: no such THING, act.")
    private static void actOfNoSuch() {
        int[] acts = {-1, 3, 4, MIN, MAX};
        for (int t : NO_THINGS) {
            noAct(t, 0);
            noAct(t, 3);
        }
        for (int act : acts) {
            noAct(0, act);
        }
    }

    private static void noAct(int thing, int act) {
        CellarMeter x = busy();
        due("bodies of the act before", x.count(6) > 0 ? 1 : 0, 1);
        due("act " + act + " of " + thing, x.act(thing, act, 7), 0);
        due("no bodies", x.count(6), 0);
        due("no trace", x.trace(0), NONE);
        x.act(0, 0, 7);
        due("an act again", x.trace(0), 10);
        due("alone", x.count(6), 1);
    }

    // ---- promise 24

    @Says(promise = 24, value = "THE TRACE's i-th body.",
        terms = {"THE TRACE: the numbers of the bodies that ran in the latest act(), as they began;",
            "takes(..) and so on: the body of its KIND, or, if that has none, of the next KIND above that has one;",
            "super.takes(..): so from the KIND above the body's on;", "all that stands in a body is done from the left on.",
            "the first 20 are kept."})
    private static void bodiesAsTheyBegan() {
        traced(0, 0, 10);
        traced(0, 1, 11, 10);
        traced(0, 2, 12, 11, 10);
        traced(1, 0, 10);
        traced(1, 1, 20, 11, 10);
        traced(1, 2, 12, 20, 11, 10);
        traced(2, 0, 30, 10);
        traced(2, 1, 11, 30, 10);
        traced(2, 2, 12, 11, 30, 10);
        traced(3, 0, 10);
        traced(3, 1, 11, 10);
        traced(3, 2, 40, 12, 11, 10, 11, 10);
        traced(4, 0, 50, 10);
        traced(4, 1, 51, 20, 11, 50, 10);
        traced(4, 2, 12, 51, 20, 11, 50, 10);
        traced(5, 0, 10);
        traced(5, 1, 11, 10);
        traced(5, 2, 60, 12, 11, 10);
        traced(6, 0, 71, 10);
        traced(6, 1, 70, 11, 71, 10, 10);
        traced(6, 2, 60, 12, 70, 11, 71, 10, 10);
    }

    private static void traced(int kind, int act, int... bodies) {
        CellarMeter x = things(6, 2, kind, 2);
        x.act(0, 2, 1);
        x.act(1, act, 5);
        due("bodies of " + kind, x.count(6), bodies.length);
        for (int i = 0; i < bodies.length; i++) {
            due("body " + i + " of act " + act + " of " + kind, x.trace(i), bodies[i]);
        }
        due("behind the last", x.trace(bodies.length), NONE);
    }

    @Says(promise = 24, value = "NONE.", terms = "the first 20 are kept.")
    private static void noSuchBody() {
        due("before any act", new CellarMeter().trace(0), NONE);
        int[] none = {-1, 4, 5, 6, 7, 19, 20, 21, MIN, MAX};
        for (int i : none) {
            refused("body " + i, x -> x.trace(i), NONE);
        }
        due("the last of four", busy().trace(3), 10);
    }

    // ---- promise 25

    @Says(promise = 25, value = {"A THING taken for one of KIND k (0 .. 6), or one under that: its KIND.", "CAST."},
        terms = "CAST (-12): another sort or KIND;")
    private static void takenForEachKind() {
        int[][] taken = {{0}, {0, 1}, {0, 2}, {0, 3}, {0, 1, 4}, {0, 5}, {0, 5, 6}};
        for (int kind = 0; kind < 7; kind++) {
            CellarMeter x = things(kind, 2);
            for (int k = 0; k < 7; k++) {
                int want = CAST;
                for (int one : taken[kind]) {
                    want = one == k ? kind : want;
                }
                due(kind + " for " + k, x.taken(0, k), want);
            }
        }
        refused("a switch for steps", x -> x.taken(0, 4), CAST);
    }

    @Says(promise = 25, value = {"BAD: k;", "NOTHING: no such THING;"}, terms = "NOTHING (-11): nothing is there;")
    private static void takenForNoSuch() {
        int[] kinds = {-1, 7, 8, MIN, MAX};
        for (int k : kinds) {
            refused("kind " + k, x -> x.taken(0, k), BAD);
            refused("kind ahead of thing", x -> x.taken(3, k), BAD);
        }
        for (int t : NO_THINGS) {
            refused("thing " + t, x -> x.taken(t, 0), NOTHING);
            refused("thing " + t, x -> x.taken(t, 6), NOTHING);
        }
    }

    // ---- promise 26

    @Says(promise = 26, value = {"How many: 0 THINGS, 1 WAYS, 2 READINGS of the first meter, 3 of the second one,",
        "4 HOUSES, 5 bytes of THE TEXT, 6 bodies that ran in the latest act() (all, kept or not)."})
    private static void countsOfAll() {
        int[] empty = {0, 1, 0, 0, 0, 0, 0};
        CellarMeter x = new CellarMeter();
        for (int what = 0; what < 7; what++) {
            due("a new one, " + what, x.count(what), empty[what]);
        }
        int[] busy = {3, 12, 4, 4, 2, 6, 4};
        x = busy();
        for (int what = 0; what < 7; what++) {
            due("a busy one, " + what, x.count(what), busy[what]);
        }
        x = things(6, 4, 0, 4, 0, 2, 0, 2);
        readings(x, 0, times(12, 0));
        readings(x, 1, times(12, 0));
        for (int i = 0; i < 6; i++) {
            holds(x, "give 1");
        }
        for (int i = 0; i < 25; i++) {
            x.feed(0, 4);
        }
        x.act(0, 2, 0);
        int[] full = {4, 64, 12, 12, 6, 100, 7};
        for (int what = 0; what < 7; what++) {
            due("a full one, " + what, x.count(what), full[what]);
        }
    }

    @Says(promise = 26, value = "BAD.")
    private static void countOfNoSuch() {
        int[] none = {-1, 7, 8, MIN, MAX};
        for (int what : none) {
            refused("what " + what, x -> x.count(what), BAD);
        }
    }

    // ---- promise 27

    @Says(promise = 27, value = "A TAPE becomes a row of n (0 .. 60) of a sort, all 0,",
        terms = "TAPES 0 .. 5 hold nothing (at first), or a row of 0 bytes, 1 shorts, 2 ints, 3 longs, 4 booleans (items 0, 1).")
    private static void rowsOfEachSize() {
        CellarMeter x = new CellarMeter();
        for (int tape = 0; tape < 6; tape++) {
            due("nothing at first", x.item(tape, 0, 0), NOTHING);
            due("nothing at first", x.read(tape, 0), NO);
        }
        int[] sizes = {0, 1, 2, 59, 60};
        for (int sort = 0; sort < 5; sort++) {
            for (int n : sizes) {
                due("a row", x.tape(sort, sort, n), 1);
                due("behind it", x.read(sort, n), NO);
                due("behind it", x.item(sort, n, 1), PLACE);
                if (n > 0) {
                    due("all 0, the last", x.read(sort, n - 1), 0);
                    due("all 0, the first", x.read(sort, 0), 0);
                    due("the last", x.item(sort, n - 1, 1), 1);
                    due("a row anew", x.tape(sort, sort, n), 1);
                    due("all 0 again", x.read(sort, n - 1), 0);
                    x.item(sort, n - 1, 1);
                }
            }
            due("a shorter row of another sort", x.tape(sort, (sort + 1) % 5, 3), 1);
            x.item(sort, 2, 1);
            due("a longer one", x.tape(sort, sort, 60), 1);
            due("all 0", x.read(sort, 2) + x.read(sort, 58) + x.read(sort, 59), 0);
        }
        due("the last tape is its own", x.read(5, 0), NO);
    }

    @Says(promise = 27, value = "or holds nothing (sort -1: n does not matter): 1.")
    private static void rowsThatHoldNothing() {
        int[] sizes = {0, 1, 60, 61, -1, MIN, MAX};
        for (int n : sizes) {
            CellarMeter x = busy();
            due("nothing, n " + n, x.tape(0, -1, n), 1);
            due("nothing is there", x.item(0, 0, 1), NOTHING);
            due("nothing is there", x.read(0, 0), NO);
            due("still nothing", x.tape(0, -1, n), 1);
            due("a row", x.tape(0, 0, 5), 1);
            due("all 0", x.read(0, 0), 0);
        }
    }

    @Says(promise = 27, value = {"NONE: tape;", "BAD: sort, n above 60;", "SIZE."}, terms = "SIZE (-14): a size below 0.")
    private static void noSuchTapeSortOrSize() {
        int[] sorts = {-2, 5, 6, MIN, MAX};
        int[] above = {61, 62, 1 << 16, MAX};
        int[] below = {-1, -2, MIN};
        for (int tape : NO_TAPES) {
            refused("tape " + tape, x -> x.tape(tape, 0, 1), NONE);
            refused("tape ahead of sort", x -> x.tape(tape, 5, 1), NONE);
            refused("tape ahead of size", x -> x.tape(tape, 0, -1), NONE);
            refused("tape that would hold nothing", x -> x.tape(tape, -1, 0), NONE);
        }
        for (int sort : sorts) {
            refused("sort " + sort, x -> x.tape(0, sort, 1), BAD);
            refused("sort ahead of size", x -> x.tape(0, sort, -1), BAD);
        }
        for (int s = 0; s < 5; s++) {
            final int sort = s;
            for (int n : above) {
                refused("n " + n, x -> x.tape(0, sort, n), BAD);
            }
            for (int n : below) {
                refused("n " + n, x -> x.tape(0, sort, n), SIZE);
                refused("n " + n + " of nothing", x -> x.tape(2, sort, n), SIZE);
            }
        }
    }

    // ---- promises 28 and 29

    @Says(promise = 28, value = "Item i of a TAPE becomes v (its lowest bits, as many as an item has; booleans: whether v is not 0): 1.",
        terms = "0 bytes, 1 shorts, 2 ints, 3 longs, 4 booleans (items 0, 1).")
    private static void lowestBitsOfItems() {
        long[] values = {0, 1, -1, 127, 128, -128, -129, 255, 256, 32767, 32768, -32768, -32769, 65535, 65536,
            2147483647L, 2147483648L, -2147483648L, -2147483649L, 4294967295L, 4294967296L,
            Long.MAX_VALUE, Long.MIN_VALUE};
        long[] bytes = {0, 1, -1, 127, -128, -128, 127, -1, 0, -1, 0, 0, -1, -1, 0, -1, 0, 0, -1, -1, 0, -1, 0};
        long[] shorts = {0, 1, -1, 127, 128, -128, -129, 255, 256, 32767, -32768, -32768, 32767, -1, 0,
            -1, 0, 0, -1, -1, 0, -1, 0};
        long[] ints = {0, 1, -1, 127, 128, -128, -129, 255, 256, 32767, 32768, -32768, -32769, 65535, 65536,
            2147483647, -2147483648, -2147483648, 2147483647, -1, 0, -1, 0};
        long[][] kept = {bytes, shorts, ints, values};
        for (int sort = 0; sort < 5; sort++) {
            CellarMeter x = new CellarMeter();
            x.tape(0, sort, 3);
            for (int k = 0; k < values.length; k++) {
                due("item", x.item(0, 1, values[k]), 1);
                long want = sort == 4 ? values[k] == 0 ? 0 : 1 : kept[sort][k];
                due("sort " + sort + " of " + values[k], x.read(0, 1), want);
                due("those beside it", x.read(0, 0) + x.read(0, 2), 0);
            }
        }
    }

    @Says(promise = 28, value = {"NONE;", "NOTHING;", "PLACE."},
        terms = {"The host's refusals: NOTHING (-11): nothing is there;", "PLACE (-13): no such place;"})
    private static void noSuchItem() {
        int[] places = {-1, 5, 6, 60, MIN, MAX};
        for (int tape : NO_TAPES) {
            refused("tape " + tape, x -> x.item(tape, 0, 1), NONE);
            refused("tape and place", x -> x.item(tape, -1, 1), NONE);
        }
        for (int i : places) {
            refused("place " + i, x -> x.item(0, i, 1), PLACE);
            refused("nothing ahead of place", x -> x.item(2, i, 1), NOTHING);
            refused("an empty row", x -> x.item(3, i, 1), PLACE);
        }
        refused("nothing", x -> x.item(2, 0, 1), NOTHING);
        refused("an empty row", x -> x.item(3, 0, 1), PLACE);
    }

    @Says(promise = 29, value = {"Item i of a TAPE.", "NO: no such TAPE, nothing there, no such place."},
        terms = "NO = Long.MIN_VALUE`: There is no such number.")
    private static void readOfNoSuchItem() {
        int[] places = {-1, 5, 6, 60, MIN, MAX};
        for (int tape : NO_TAPES) {
            refused("tape " + tape, x -> x.read(tape, 0), NO);
        }
        for (int i : places) {
            refused("place " + i, x -> x.read(0, i), NO);
            refused("nothing", x -> x.read(2, i), NO);
            refused("an empty row", x -> x.read(3, i), NO);
        }
        refused("nothing", x -> x.read(2, 0), NO);
        refused("an empty row", x -> x.read(3, 0), NO);
        CellarMeter x = busy();
        due("the first", x.read(0, 0), 6);
        due("the last", x.read(0, 4), 6);
        x.item(1, 0, NO);
        due("an item that is NO", x.read(1, 0), NO);
    }

    // ---- promise 30

    @Says(promise = 30, value = "n items of a TAPE from i on come to another one (or the same) from j on, as they all were before: n.")
    private static void itemsAsTheyWere() {
        for (int sort = 0; sort < 5; sort++) {
            CellarMeter x = new CellarMeter();
            row(x, 0, sort, 1, 0, 1, 1, 0);
            row(x, 1, sort, 0, 0, 0);
            due("to another", x.shift(0, 2, 1, 0, 3), 3);
            held(x, 1, 1, 1, 0);
            held(x, 0, 1, 0, 1, 1, 0);
            due("up by one", x.shift(0, 0, 0, 1, 4), 4);
            held(x, 0, 1, 1, 0, 1, 1);
            due("down by two", x.shift(0, 2, 0, 0, 3), 3);
            held(x, 0, 0, 1, 1, 1, 1);
            due("to where they are", x.shift(0, 0, 0, 0, 5), 5);
            held(x, 0, 0, 1, 1, 1, 1);
            due("none at the ends", x.shift(0, 5, 1, 3, 0), 0);
            due("none at the begins", x.shift(1, 0, 0, 0, 0), 0);
            held(x, 0, 0, 1, 1, 1, 1);
            held(x, 1, 1, 1, 0);
            x.tape(2, sort, 0);
            due("none of none", x.shift(2, 0, 2, 0, 0), 0);
            due("none to none", x.shift(0, 5, 2, 0, 0), 0);
        }
        CellarMeter x = new CellarMeter();
        x.tape(0, 3, 60);
        x.tape(1, 3, 60);
        x.item(0, 0, Long.MIN_VALUE);
        x.item(0, 59, Long.MAX_VALUE);
        due("all 60", x.shift(0, 0, 1, 0, 60), 60);
        due("the first", x.read(1, 0), Long.MIN_VALUE);
        due("the last", x.read(1, 59), Long.MAX_VALUE);
        due("the last to the first", x.shift(0, 59, 1, 0, 1), 1);
        due("the first", x.read(1, 0), Long.MAX_VALUE);
    }

    private static void row(CellarMeter x, int tape, int sort, int... items) {
        x.tape(tape, sort, items.length);
        for (int i = 0; i < items.length; i++) {
            x.item(tape, i, items[i]);
        }
    }

    private static void held(CellarMeter x, int tape, int... items) {
        for (int i = 0; i < items.length; i++) {
            due("tape " + tape + ", item " + i, x.read(tape, i), items[i]);
        }
    }

    @Says(promise = 30, value = {"NONE: tapes;", "NOTHING;", "CAST: of unlike sorts;"})
    private static void noSuchTapesOrSorts() {
        for (int tape : NO_TAPES) {
            refused("tape " + tape, x -> x.shift(tape, 0, 0, 0, 1), NONE);
            refused("other " + tape, x -> x.shift(0, 0, tape, 0, 1), NONE);
            refused("both " + tape, x -> x.shift(tape, 0, tape, 0, 1), NONE);
            refused("other ahead of nothing", x -> x.shift(2, 0, tape, 0, 1), NONE);
            refused("tape ahead of nothing", x -> x.shift(tape, 0, 2, 0, 1), NONE);
            refused("other ahead of place", x -> x.shift(0, -1, tape, 0, 1), NONE);
        }
        refused("from nothing", x -> x.shift(2, 0, 0, 0, 1), NOTHING);
        refused("to nothing", x -> x.shift(0, 0, 2, 0, 1), NOTHING);
        refused("nothing to itself", x -> x.shift(2, 0, 2, 0, 0), NOTHING);
        refused("nothing ahead of place", x -> x.shift(0, 9, 2, 0, -1), NOTHING);
        refused("none to nothing", x -> x.shift(0, 0, 2, 0, 0), NOTHING);
        int[] rows = {0, 1, 3, 4};
        for (int a : rows) {
            for (int b : rows) {
                if (a != b) {
                    refused(a + " to " + b, x -> x.shift(a, 0, b, 0, 0), CAST);
                    refused("cast ahead of place", x -> x.shift(a, -1, b, 99, -1), CAST);
                }
            }
        }
    }

    @Says(promise = 30, value = "PLACE: n, i or j is below 0, or beyond either's end.")
    private static void noSuchPlaces() {
        int[] below = {-1, -2, MIN};
        int[] above = {MAX, MAX - 1, 1 << 30};
        for (int v : below) {
            refused("n " + v, x -> x.shift(0, 0, 5, 0, v), PLACE);
            refused("i " + v, x -> x.shift(0, v, 5, 0, 1), PLACE);
            refused("j " + v, x -> x.shift(0, 0, 5, v, 1), PLACE);
            refused("i below 0 and none", x -> x.shift(0, v, 5, 0, 0), PLACE);
            refused("j below 0 and none", x -> x.shift(0, 0, 5, v, 0), PLACE);
            refused("an n that brings i back", x -> x.shift(0, v, 5, 0, MAX), PLACE);
        }
        for (int v : above) {
            refused("n " + v, x -> x.shift(0, 1, 5, 1, v), PLACE);
            refused("i " + v, x -> x.shift(0, v, 5, 0, 1), PLACE);
            refused("j " + v, x -> x.shift(0, 0, 5, v, 1), PLACE);
            refused("i and n", x -> x.shift(0, v, 5, 0, v), PLACE);
            refused("j and n", x -> x.shift(0, 0, 5, v, v), PLACE);
        }
        refused("one beyond its end", x -> x.shift(5, 0, 0, 0, 5), PLACE);
        refused("one beyond the other's end", x -> x.shift(0, 0, 5, 0, 5), PLACE);
        refused("from 1 beyond its end", x -> x.shift(5, 1, 0, 0, 4), PLACE);
        refused("to 1 beyond the other's end", x -> x.shift(0, 0, 5, 1, 4), PLACE);
        refused("none behind its end", x -> x.shift(5, 5, 0, 0, 0), PLACE);
        refused("none behind the other's end", x -> x.shift(0, 0, 5, 5, 0), PLACE);
        refused("one at its end", x -> x.shift(0, 5, 5, 0, 1), PLACE);
        refused("one at the other's end", x -> x.shift(0, 0, 5, 4, 1), PLACE);
        refused("beyond its own end", x -> x.shift(0, 0, 0, 1, 5), PLACE);
        due("all that the other holds", busy().shift(0, 1, 5, 0, 4), 4);
    }
}
