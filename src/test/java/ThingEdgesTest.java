import java.util.function.Supplier;

/** The edges of promises 1 to 6: things and houses. */
public final class ThingEdgesTest extends Edges {
    public static void main(String[] args) throws IllegalAccessException {
        Edges.runAll(ThingEdgesTest.class);
    }

    // ---- promise 1

    @Says(promise = 1, value = "No THINGS, no READINGS.")
    private static void nothingIsThere() {
        CellarMeter x = new CellarMeter();
        for (int what = 0; what < 7; what++) {
            due("count " + what, x.count(what), what == 1 ? 1 : 0);
        }
        due("thing 0", x.of(0, 0), NONE);
        due("follows of thing 0", x.follows(0, 0, 0), NONE);
        due("reading 0", x.may(0), NONE);
        due("way 0 of reading 0", x.fits(0, 0), NONE);
        due("sure of reading 0", x.sure(0, 0), NONE);
        due("part of thing 0", x.part(0, 0), NONE);
        due("coarse of reading 0", x.coarse(0, 0), NONE);
        due("alike", x.alike(), 0);
        due("clear", x.clear(0), 0);
    }

    @Says(promise = 1, value = "No THINGS, no READINGS.")
    private static void oneObjectTellsNothingOfAnother() {
        CellarMeter x = busy();
        CellarMeter y = new CellarMeter();
        nothingIsThere();
        due("undo", y.undo(), STATE);
        due("tape", y.item(0, 0, 1), NOTHING);
        due("trace", y.trace(0), NONE);
        due("things of the first", x.count(0), 3);
        due("house of the second", house(y, "give 1"), 0);
        due("house of the first goes on", x.house(), 2);
    }

    @Says(promise = 1, terms = {"Answers: NONE (-1) no such number; BAD (-2) a number is not as told; STATE (-3) as told; FULL (-4);",
        "The constants: `NO = Long.MIN_VALUE`: There is no such number."})
    private static void constants() {
        due("NONE", CellarMeter.NONE, -1);
        due("BAD", CellarMeter.BAD, -2);
        due("STATE", CellarMeter.STATE, -3);
        due("FULL", CellarMeter.FULL, -4);
        due("NO", CellarMeter.NO, 1L << 63);
    }

    @Says(promise = 2, terms = {"the first that a call's words name.", "What is answered so changes nothing;"})
    private static void theFirstThatIsNamed() {
        Supplier<CellarMeter> fullAndRead = () -> {
            CellarMeter x = four();
            x.reading(0, 0);
            return x;
        };
        refused("kind, m, readings, full", fullAndRead, x -> x.thing(7, 1), NONE);
        refused("m, readings, full", fullAndRead, x -> x.thing(6, 1), BAD);
        refused("readings, full", fullAndRead, x -> x.thing(6, 2), STATE);
        refused("full", ThingEdgesTest::four, x -> x.thing(6, 2), FULL);
        refused("n, full", Edges::withFullText, x -> x.feed(0, 5), BAD);
        refused("meter, watts, full", Edges::withAllReadings, x -> x.reading(2, -1), NONE);
        refused("watts, full", Edges::withAllReadings, x -> x.reading(0, -1), BAD);
        refused("full", Edges::withAllReadings, x -> x.reading(0, 0), FULL);
        refused("tape, sort, n below 0", x -> x.tape(6, 5, -1), NONE);
        refused("sort, n below 0", x -> x.tape(0, 5, -1), BAD);
        refused("n below 0", x -> x.tape(0, 4, -1), SIZE);
        refused("tape, nothing, sort, place", x -> x.shift(2, -1, 6, -1, -1), NONE);
        refused("nothing, place", x -> x.shift(2, -1, 0, -1, -1), NOTHING);
        refused("sort, place", x -> x.shift(1, -1, 0, -1, -1), CAST);
        refused("place", x -> x.shift(0, -1, 0, -1, -1), PLACE);
        refused("kind, no thing", x -> x.taken(9, 9), BAD);
        refused("no thing", x -> x.taken(9, 6), NOTHING);
    }

    // ---- promise 2

    @Says(promise = 2, value = "A THING of a KIND with m STATES: its number.",
        terms = {"THINGS 0 .. 3, as they come, of KINDS:", "0 THING; 1 SWITCH, 2 ROUND, 3 WARM, 5 ALWAYS under THING;",
            "4 STEPS under SWITCH; 6 HELD under ALWAYS."})
    private static void numbersAsTheyCome() {
        for (int kind = 0; kind < 7; kind++) {
            CellarMeter x = new CellarMeter();
            for (int i = 0; i < 4; i++) {
                due("refused ahead of thing " + i, x.thing(7, 2), NONE);
                due("refused ahead of thing " + i, x.thing(kind, 5), BAD);
                due("thing " + i, x.thing((kind + i) % 7, 2), i);
                due("its kind", x.of(i, 0), (kind + i) % 7);
                due("its states", x.of(i, 1), 2);
                due("how many", x.count(0), i + 1);
                due("ways", x.count(1), 2 << i);
            }
        }
    }

    @Says(promise = 2, value = "NONE: kind;")
    private static void kindBelowAndAbove() {
        int[] kinds = {-1, 7, 8, MIN, MAX};
        for (int kind : kinds) {
            refused("kind " + kind, Edges::idle, x -> x.thing(kind, 2), NONE);
            refused("kind ahead of m", Edges::idle, x -> x.thing(kind, 5), NONE);
            refused("kind ahead of readings", x -> x.thing(kind, 2), NONE);
            refused("kind ahead of full", ThingEdgesTest::four, x -> x.thing(kind, 2), NONE);
        }
        due("the least kind", new CellarMeter().thing(0, 2), 0);
        due("the greatest kind", new CellarMeter().thing(6, 2), 0);
    }

    @Says(promise = 2, value = "BAD: m;", terms = "Each has STATES 0 .. m - 1 (m 2 .. 4;")
    private static void statesBelowAndAbove() {
        int[] states = {1, 5, 0, -1, -2, MIN, MAX, 1 << 30, 1 << 16};
        for (int m : states) {
            refused("m " + m, Edges::idle, x -> x.thing(0, m), BAD);
            refused("m ahead of readings", x -> x.thing(0, m), BAD);
            refused("m ahead of full", ThingEdgesTest::four, x -> x.thing(0, m), BAD);
        }
        for (int m = 2; m <= 4; m++) {
            CellarMeter x = things(0, m);
            due("ways of " + m, x.count(1), m);
            due("the last state", x.follows(0, 0, m - 1), 1);
            due("beyond the last state", x.follows(0, 0, m), NONE);
        }
    }

    @Says(promise = 2, value = "STATE: there are READINGS;")
    private static void readingsAreThere() {
        refused("both meters' readings", x -> x.thing(0, 2), STATE);
        refused("the first meter's", ThingEdgesTest::withFirst, x -> x.thing(0, 2), STATE);
        refused("the second meter's", ThingEdgesTest::withSecond, x -> x.thing(0, 2), STATE);
        refused("ahead of full", () -> {
            CellarMeter x = four();
            x.reading(1, 0);
            return x;
        }, x -> x.thing(0, 2), STATE);
        CellarMeter x = busy();
        x.clear(0);
        due("one cleared", x.thing(0, 2), STATE);
        x.clear(1);
        due("both cleared", x.thing(0, 2), 3);
        x.undo();
        due("brought back by undo", x.thing(0, 2), STATE);
    }

    private static CellarMeter withFirst() {
        CellarMeter x = idle();
        x.reading(0, 0);
        return x;
    }

    private static CellarMeter withSecond() {
        CellarMeter x = idle();
        x.reading(1, 0);
        return x;
    }

    private static CellarMeter four() {
        return things(0, 2, 1, 2, 2, 2, 5, 2);
    }

    @Says(promise = 2, value = "FULL: 4,", terms = "THINGS 0 .. 3,")
    private static void aFifthThing() {
        for (int m = 2; m <= 4; m++) {
            final int states = m;
            refused("a fifth of " + m, ThingEdgesTest::four, x -> x.thing(3, states), FULL);
        }
        CellarMeter x = four();
        due("four", x.count(0), 4);
        due("16 ways", x.count(1), 16);
    }

    @Says(promise = 2, value = "or there would be more than 64 WAYS.",
        terms = "all together no more than 64 ways, WAYS, for the house);")
    private static void moreThanSixtyFourWays() {
        refused("128", () -> things(0, 4, 0, 4, 0, 4), x -> x.thing(0, 2), FULL);
        refused("192", () -> things(0, 4, 0, 4, 0, 4), x -> x.thing(0, 3), FULL);
        refused("256", () -> things(0, 4, 0, 4, 0, 4), x -> x.thing(0, 4), FULL);
        refused("96", () -> things(0, 4, 0, 2, 0, 4), x -> x.thing(0, 3), FULL);
        refused("81", () -> things(0, 3, 0, 3, 0, 3), x -> x.thing(0, 3), FULL);
        refused("72", () -> things(0, 3, 0, 3, 0, 2), x -> x.thing(0, 4), FULL);
        CellarMeter x = things(0, 4, 0, 4, 0, 4);
        due("64 of three", x.count(1), 64);
        x = things(0, 4, 0, 2, 0, 4);
        due("a refused one", x.thing(0, 3), FULL);
        due("64 of four", x.thing(0, 2), 3);
        due("64 of four", x.count(1), 64);
        x = things(0, 3, 0, 3, 0, 3, 0, 2);
        due("54", x.count(1), 54);
    }

    // ---- promise 3

    @Says(promise = 3, value = {"Of a THING what 0 KIND, 1 how many STATES,", "NONE."})
    private static void kindAndStatesAndNothingBeside() {
        for (int m = 2; m <= 4; m++) {
            CellarMeter x = things(6, 2, 4, m);
            due("kind", x.of(1, 0), 4);
            due("states", x.of(1, 1), m);
            int[] none = {-1, 2, 3, 9, 10 + m, 19, 20 + m, 24, 29, 30, -10, -20, MIN, MAX, MIN + 10, MAX - 20};
            for (int what : none) {
                due("what " + what + " of " + m, x.of(1, what), NONE);
            }
        }
    }

    @Says(promise = 3, value = "NONE.")
    private static void ofNoSuchThing() {
        int[] none = {-1, 3, 4, 5, 32, MIN, MAX};
        for (int thing : none) {
            refused("thing " + thing, x -> x.of(thing, 0), NONE);
            refused("thing and what", x -> x.of(thing, 99), NONE);
        }
    }

    @Says(promise = 3, value = "NONE.", terms = "THINGS 0 .. 3,")
    private static void theFourthThingAndAFifth() {
        CellarMeter x = things(0, 2, 0, 2, 0, 2, 4, 4);
        holds(x, "take 3 3 5;glad 3 3 6;give 5");
        readings(x, 0, 0);
        int[] fourth = {x.of(3, 0), x.of(3, 1), x.of(3, 13), x.of(3, 23), x.follows(3, 1, 3), x.part(3, 1),
            x.coarse(0, 3), x.taken(3, 1), x.act(3, 0, 1), x.sure(0, 1)};
        int[] due = {4, 4, 5, 6, 0, 5, 1, 4, -4, 15};
        for (int i = 0; i < due.length; i++) {
            due("call " + i + " of thing 3", fourth[i], due[i]);
        }
        int[] fifth = {x.of(4, 0), x.of(4, 13), x.follows(4, 0, 0), x.part(4, 0), x.coarse(0, 4)};
        for (int i = 0; i < fifth.length; i++) {
            due("call " + i + " of thing 4", fifth[i], NONE);
        }
        due("taken", x.taken(4, 0), NOTHING);
        due("act", x.act(4, 0, 1), 0);
    }

    @Says(promise = 3, value = "10 and k what it TAKES in STATE k,",
        terms = {"TAKE,", "of THING t in STATE k: the n of its last such CLAUSE (0 without)."})
    private static void takes() {
        CellarMeter x = things(0, 4, 0, 2);
        due("without a house", x.of(0, 10), 0);
        holds(x, "take 0 0 1;take 0 3 999;take 0 3 0;take 0 3 998;take 1 1 007;take 1 2 5;take 3 0 9");
        int[] due = {1, 0, 0, 998};
        for (int k = 0; k < 4; k++) {
            due("state " + k, x.of(0, 10 + k), due[k]);
        }
        due("the other's", x.of(1, 10), 0);
        due("the other's", x.of(1, 11), 7);
        due("a state that it has not", x.of(1, 12), NONE);
        due("glad of nothing", x.of(0, 23), 0);
        holds(x, "take 0 1 4;take 0 1 0");
        due("the last is 0", x.of(0, 11), 0);
        due("another house", x.of(0, 13), 0);
    }

    @Says(promise = 3, value = "20 and k how GLAD it is.",
        terms = {"GLAD", "of THING t in STATE k: the n of its last such CLAUSE (0 without)."})
    private static void glad() {
        CellarMeter x = things(0, 4, 0, 2);
        due("without a house", x.of(0, 20), 0);
        holds(x, "glad 0 0 1;glad 0 3 999;glad 0 3 12;glad 1 1 070;glad 1 3 5");
        int[] due = {1, 0, 0, 12};
        for (int k = 0; k < 4; k++) {
            due("state " + k, x.of(0, 20 + k), due[k]);
        }
        due("the other's", x.of(1, 20), 0);
        due("the other's", x.of(1, 21), 70);
        due("a state that it has not", x.of(1, 23), NONE);
        due("takes nothing", x.of(0, 13), 0);
    }

    @Says(promise = 3, value = "10 and k what it TAKES in STATE k,", terms = "The newest HOUSE holds;")
    private static void aHouseAheadOfItsThings() {
        CellarMeter x = new CellarMeter();
        holds(x, "take 3 3 5;glad 3 1 6;bar d=3;take 0 1 1");
        for (int i = 0; i < 4; i++) {
            due("thing", x.thing(0, i == 3 ? 4 : 2), i);
        }
        due("takes", x.of(3, 13), 5);
        due("glad", x.of(3, 21), 6);
        readings(x, 0, 0, 1, 5);
        due("0: without the first, in states below 3", x.may(0), 12);
        due("1: with the first", x.may(1), 12);
        due("5: barred", x.may(2), 0);
    }

    // ---- promise 4

    /** For 2, 3 and 4 states: of each state those that follow it, as bits. */
    private static void followers(int kind, int[]... rows) {
        for (int[] row : rows) {
            CellarMeter x = things(kind, row.length);
            for (int a = 0; a < row.length; a++) {
                for (int b = 0; b < row.length; b++) {
                    due(row.length + " states: " + a + " " + b, x.follows(0, a, b), row[a] >> b & 1);
                }
            }
        }
    }

    @Says(promise = 4, value = "Whether STATE b FOLLOWS STATE a of a THING: 1, 0.",
        terms = "One STATE FOLLOWS another one of a THING: THING: any one.")
    private static void thingFollows() {
        followers(0, new int[] {3, 3}, new int[] {7, 7, 7}, new int[] {15, 15, 15, 15});
    }

    @Says(promise = 4, terms = {"0 is off.", "SWITCH: itself, 0, and behind 0 any one."})
    private static void switchFollows() {
        followers(1, new int[] {3, 3}, new int[] {7, 3, 5}, new int[] {15, 3, 5, 9});
    }

    @Says(promise = 4, terms = "ROUND: itself, or the next one (0 behind the last).")
    private static void roundFollows() {
        followers(2, new int[] {3, 3}, new int[] {3, 6, 5}, new int[] {3, 6, 12, 9});
    }

    @Says(promise = 4, terms = "WARM: itself, the one below it, 0, and behind 0 the last one.")
    private static void warmFollows() {
        followers(3, new int[] {3, 3}, new int[] {5, 3, 7}, new int[] {9, 3, 7, 13});
    }

    @Says(promise = 4, terms = "STEPS: as SWITCH, and also those that are 1 apart.")
    private static void stepsFollows() {
        followers(4, new int[] {3, 3}, new int[] {7, 7, 7}, new int[] {15, 7, 15, 13});
    }

    @Says(promise = 4, terms = "ALWAYS: any one but 0 (it never is in 0: then none).")
    private static void alwaysFollows() {
        followers(5, new int[] {0, 2}, new int[] {0, 6, 6}, new int[] {0, 14, 14, 14});
    }

    @Says(promise = 4, terms = "HELD: itself alone (0 none).")
    private static void heldFollows() {
        followers(6, new int[] {0, 2}, new int[] {0, 2, 4}, new int[] {0, 2, 4, 8});
    }

    @Says(promise = 4, value = "NONE: thing, states.")
    private static void followsOfNoSuch() {
        int[] things = {-1, 3, 4, MIN, MAX};
        for (int thing : things) {
            refused("thing " + thing, x -> x.follows(thing, 0, 0), NONE);
        }
        int[] states = {-1, 2, 3, 4, MIN, MAX};
        for (int state : states) {
            refused("a " + state, x -> x.follows(0, state, 0), NONE);
            refused("b " + state, x -> x.follows(0, 0, state), NONE);
            refused("both " + state, x -> x.follows(0, state, state), NONE);
            refused("of a thing that is never in 0", x -> x.follows(2, state, 0), NONE);
        }
        CellarMeter x = busy();
        due("the other has a third", x.follows(1, 2, 2), 1);
        due("and no fourth", x.follows(1, 2, 3), NONE);
        due("each is asked of its own", x.follows(1, 1, 0), 0);
    }

    // ---- promise 5

    @Says(promise = 5, value = {"The n lowest bytes of a number, the highest first", "come behind THE TEXT's: how many it has."})
    private static void lowestBytes() {
        CellarMeter x = things(0, 2);
        due("four", x.feed('t' << 24 | 'a' << 16 | 'k' << 8 | 'e', 4), 4);
        due("two of four", x.feed('x' << 24 | 'y' << 16 | ' ' << 8 | '0', 2), 6);
        due("three of four", x.feed(0xff000000 | ' ' << 16 | '1' << 8 | ' ', 3), 9);
        due("one of four", x.feed(0xffffff00 | '4', 1), 10);
        due("one of four", x.feed(0x80000000 | '2', 1), 11);
        due("house", x.house(), 0);
        due("42", x.of(0, 11), 42);
        x.feed(-1, 1);
        due("byte 255", x.house(), -10);
        x.feed('g', 1);
        x.feed('i' << 24, 4);
        due("the highest first", house(x, "ve"), -12);
        x.feed('g' << 24 | 'i' << 16, 4);
        due("byte 0", x.house(), -12);
    }

    @Says(promise = 5, value = "(n 0 .. 4),")
    private static void noBytes() {
        CellarMeter x = new CellarMeter();
        due("none, empty", x.feed(-1, 0), 0);
        x.feed('g', 1);
        due("none", x.feed('i', 0), 1);
        due("text", x.count(5), 1);
        due("four", x.feed(0, 4), 5);
        x = withFullText();
        due("none, full", x.feed(-1, 0), 100);
    }

    @Says(promise = 5, value = "BAD;")
    private static void bytesBelowAndAbove() {
        int[] many = {-1, 5, 6, 8, 100, MIN, MAX};
        for (int n : many) {
            refused("n " + n, x -> x.feed('x', n), BAD);
            refused("n ahead of full", Edges::withFullText, x -> x.feed('x', n), BAD);
        }
    }

    @Says(promise = 5, value = "FULL.", terms = "A HOUSE is read from THE TEXT (bytes, 100 at most):")
    private static void aHundredBytes() {
        for (int n = 1; n <= 4; n++) {
            final int bytes = n;
            refused("100 and " + n, Edges::withFullText, x -> x.feed(' ', bytes), FULL);
        }
        for (int left = 1; left <= 3; left++) {
            final int room = left;
            for (int n = left + 1; n <= 4; n++) {
                final int bytes = n;
                refused("room for " + left + ", not for " + n, () -> withRoom(room), x -> x.feed(' ', bytes), FULL);
            }
            due("room for " + left, withRoom(left).feed(' ', left), 100);
        }
        CellarMeter x = things(0, 2);
        feed(x, "take 0 0 1;".repeat(8) + "take 0 1 ");
        due("97", x.count(5), 97);
        due("too much", x.feed(' ' << 24 | '9' << 16 | '9' << 8 | '9', 4), FULL);
        due("100", x.feed('1' << 16 | '2' << 8 | '3', 3), 100);
        due("a house of 100 bytes", x.house(), 0);
        due("of which all is read", x.of(0, 11), 123);
    }

    private static CellarMeter withRoom(int left) {
        CellarMeter x = busy();
        x.house();
        for (int i = 0; i < 24; i++) {
            x.feed(' ', 4);
        }
        x.feed(' ', 4 - left);
        due("text", x.count(5), 100 - left);
        return x;
    }

    // ---- promise 6

    @Says(promise = 6, value = "THE TEXT, which is empty then, is a HOUSE, and holds: its number.",
        terms = "The newest HOUSE holds;")
    private static void sixHouses() {
        CellarMeter x = things(0, 2);
        for (int i = 0; i < 6; i++) {
            due("house", house(x, "take 0 1 " + (i + 1)), i);
            due("empty", x.count(5), 0);
            due("holds", x.of(0, 11), i + 1);
            due("houses", x.count(4), i + 1);
        }
    }

    @Says(promise = 6, value = "FULL: there are 6 (THE TEXT stays);")
    private static void aSeventhHouse() {
        refused("a seventh", Edges::withSixHouses, x -> x.house(), FULL);
        CellarMeter x = withSixHouses();
        due("again", x.house(), FULL);
        due("text", x.count(5), 6);
        due("text goes on", x.feed('?', 1), 7);
        due("a fault is not told", x.house(), FULL);
        due("text", x.count(5), 7);
        due("the sixth holds", x.of(0, 11), 5);
        x = things(0, 2);
        for (int i = 0; i < 6; i++) {
            house(x, "give 1");
        }
        due("an empty text", x.house(), FULL);
        due("an empty text stays", x.count(5), 0);
    }

    @Says(promise = 6, value = "-10 less the FAULT (the one that held holds).")
    private static void aFaultIsNoHouse() {
        CellarMeter x = things(0, 2);
        due("an empty text", x.house(), -10);
        due("no house", x.count(4), 0);
        due("none held, none holds", x.of(0, 11), 0);
        holds(x, "take 0 1 5;give 1");
        due("a fault behind a clause", house(x, "take 0 1 6;give 9;x"), -28);
        due("the one that held holds", x.of(0, 11), 5);
        readings(x, 0, 6, 7);
        due("its give holds", x.may(0) * 10 + x.may(1), 10);
        due("houses", x.count(4), 1);
        due("the text is gone", x.count(5), 0);
        due("the next text is read alone", house(x, "take 0 1 7"), 1);
        for (int i = 2; i < 6; i++) {
            due("a fault is none of 6", house(x, "?"), -10);
            due("house", house(x, "give 0"), i);
        }
    }

    @Says(promise = 6, value = "-10 less the FAULT (the one that held holds).")
    private static void nothingOfAFaultIsLeft() {
        CellarMeter x = things(1, 2, 1, 2);
        readings(x, 0, 0, 7);
        due("a fault at the end", house(x, "take 0 1 9;take 1 0 9;glad 0 1 8;bar a=0&b=0;give 7;?"), -62);
        due("nothing is taken", x.of(0, 11) + x.of(1, 10), 0);
        due("a house that says little", house(x, "take 1 1 0"), 0);
        due("takes", x.of(0, 11) + x.of(1, 10), 0);
        due("glad", x.of(0, 21), 0);
        due("nothing is barred", x.may(0), 4);
        due("give", x.may(1), 0);
        due("none stands in an E", x.alike(), 1);
    }

    @Says(promise = 6, value = "-10 less the FAULT",
        terms = {"The FAULT: the place of the first byte with which none begins so", "(the end of THE TEXT, if it ends too early)."})
    private static void faultsAtTheEnds() {
        fault("", 0);
        fault("?", 0);
        fault("g", 1);
        fault("give 1;", 7);
        String nine = "take 0 0 1;".repeat(9);
        fault(nine + "?", 99);
        fault(nine + "t", 100);
        fault(nine, 99);
    }

    @Says(promise = 6, terms = "CLAUSES, 1 to 12, with ; between:")
    private static void twelveClauses() {
        fault("", 0);
        fault(";", 0);
        fault(";give 1", 0);
        fault("give 1;;give 1", 7);
        fault("give 1,give 1", 6);
        fault("give 1 ;give 1", 6);
        fault("give 1; give 1", 7);
        whole("give 1");
        String eleven = "give 1;".repeat(11);
        whole(eleven + "give 1");
        whole("give 1;".repeat(10) + "give 1");
        fault(eleven + "give 1;", 83);
        fault(eleven + "give 1;give 1", 83);
        fault(eleven + "give 1;?", 83);
        fault(eleven + "give 1?", 83);
        fault(eleven, 77);
    }

    @Says(promise = 6, terms = {"take t k n; glad t k n; bar E; give n",
        "(one blank ahead of each part behind the word; t, k one figure 0 .. 3; n 1 to 3 digits)."})
    private static void partsOfClauses() {
        String[] words = {"take", "glad"};
        for (String word : words) {
            for (int i = 0; i < 4; i++) {
                fault(word.substring(0, i), i);
                fault(word.substring(0, i) + "?", i);
            }
            fault(word, 4);
            fault(word + "0 0 1", 4);
            fault(word + "  0 0 1", 5);
            fault(word + " 0  0 1", 7);
            fault(word + " 0 0  1", 9);
            fault(word + " 00 1", 6);
            fault(word + " 0 01", 8);
            fault(word + " 4 0 1", 5);
            fault(word + " / 0 1", 5);
            fault(word + " 0 4 1", 7);
            fault(word + " 0 / 1", 7);
            fault(word + " 0 0 ", 9);
            fault(word + " 0 0 -1", 9);
            fault(word + " 0 0 1234", 12);
            fault(word + " 0 0 12:", 11);
            fault(word + " 0 0 12/", 11);
            whole(word + " 0 0 0");
            whole(word + " 3 3 999");
            whole(word + " 0 3 000");
        }
        fault("Give 1", 0);
        fault("give", 4);
        fault("give1", 4);
        fault("give  1", 5);
        fault("give\t1", 4);
        fault("give ", 5);
        fault("give 1234", 8);
        whole("give 0");
        whole("give 999");
        whole("give 099");
        fault("ba", 2);
        fault("bar", 3);
        fault("bara=1", 3);
        fault("bar  a=1", 4);
        fault("bar ", 4);
    }

    @Says(promise = 6, terms = {"E: T or T|E. T: F or F&T. F: !F, (E), or a TEST:", "< or = or >, a number (1 or 2 digits)."})
    private static void signsOfBars() {
        whole("bar a<0");
        whole("bar d>99");
        whole("bar r=00");
        whole("bar a=1&b=1|c=1&d=1|r=1");
        whole("bar !!a=1&!(b=1|!c=1)");
        fault("bar e=1", 4);
        fault("bar `=1", 4);
        fault("bar q=1", 4);
        fault("bar s=1", 4);
        fault("bar A=1", 4);
        fault("bar 1=a", 4);
        fault("bar a;", 5);
        fault("bar a?1", 5);
        fault("bar a==1", 6);
        fault("bar a<=1", 6);
        fault("bar a=", 6);
        fault("bar a=b", 6);
        fault("bar a=123", 8);
        fault("bar a=1 ", 7);
        fault("bar a=1&", 8);
        fault("bar a=1|", 8);
        fault("bar a=1&|b=1", 8);
        fault("bar a=1&&b=1", 8);
        fault("bar a=1!", 7);
        fault("bar a=1(", 7);
        fault("bar a=1)", 7);
        fault("bar !", 5);
        fault("bar (", 5);
        fault("bar ()", 5);
        fault("bar (a=1", 8);
        fault("bar (a=1;", 8);
        fault("bar (a=1))", 9);
        fault("bar |a=1", 4);
        fault("bar !&a=1", 5);
    }

    @Says(promise = 6, terms = "A ( or ! within 4 others is none.")
    private static void fourWithin() {
        whole("bar ((((a=1))))");
        fault("bar (((((a=1)))))", 8);
        whole("bar !!!!a=1");
        fault("bar !!!!!a=1", 8);
        whole("bar !(!(a=1))");
        fault("bar !(!((a=1)))", 8);
        fault("bar (!(!!a=1))", 8);
        whole("bar (!(!a=1))");
        whole("bar (((!a=1)))");
        fault("bar ((((!a=1))))", 8);
        whole("bar ((((a=1))))&((((b=1))))|!!!!c=1");
        whole("bar (((!a=1&!b=1|(c=1)|!d=1)))");
        fault("bar (((!a=1&!(b=1)", 13);
        fault("bar (((!a=1&!!b=1", 13);
        fault("bar ((((a=1&(", 12);
        fault("bar ((((", 8);
        fault("bar (((((", 8);
        whole("bar !!!!a=1;bar !!!!a=1");
    }

    @Says(promise = 6, terms = "E: T or T|E. T: F or F&T. F: !F, (E), or a TEST:")
    private static void barsAreReadSo() {
        barred("a=1", 0b1010);
        barred("!a=1", 0b0101);
        barred("!!a=1", 0b1010);
        barred("!!!a=1", 0b0101);
        barred("!!!!a=1", 0b1010);
        barred("!a=1&b=1", 0b0100);
        barred("!(a=1&b=1)", 0b0111);
        barred("!a=1|b=1", 0b1101);
        barred("!(a=1|b=1)", 0b0001);
        barred("a=1|a=0&b=1", 0b1110);
        barred("a=0&b=1|a=1", 0b1110);
        barred("(a=1|a=0)&b=1", 0b1100);
        barred("a=1&(b=1|b=0)", 0b1010);
        barred("a=1&b=0|a=0&b=1", 0b0110);
        barred("a=1|a=1|b=1&a=0", 0b1110);
        barred("((((a=1&b=1))))", 0b1000);
        barred("!(a=1&!(b=1))", 0b1101);
    }

    @Says(promise = 6, terms = {"a, b, c or d (the STATE of THING 0, 1, 2, 3; 0 without such one)",
        "< or = or >, a number (1 or 2 digits)."})
    private static void testsOfStates() {
        barred("a<1", 0b0101);
        barred("a<0", 0);
        barred("a<2", 0b1111);
        barred("a>0", 0b1010);
        barred("a>1", 0);
        barred("a=2", 0);
        barred("a=01", 0b1010);
        barred("a=10", 0);
        barred("a<10", 0b1111);
        barred("a<99", 0b1111);
        barred("a>99", 0);
        barred("b=1", 0b1100);
        barred("c=0", 0b1111);
        barred("c>0", 0);
        barred("c<1&d=0", 0b1111);
        barred("d=1", 0);
        CellarMeter x = things(0, 2, 0, 2, 0, 2, 0, 2);
        holds(x, "bar c=1;bar d=1");
        readings(x, 0, 0);
        for (int w = 0; w < 16; w++) {
            due("way " + w, x.fits(0, w), w < 4 ? 1 : 0);
        }
    }

    @Says(promise = 6, terms = "or r (the READING's place),")
    private static void testsOfPlaces() {
        CellarMeter x = things(0, 2);
        readings(x, 0, times(12, 0));
        holds(x, "bar r=0&a=1;bar r>10&a=0;bar r=05;bar r<3&r>1");
        int[] fitting = {1, 2, 0, 2, 2, 0, 2, 2, 2, 2, 2, 1};
        for (int r = 0; r < 12; r++) {
            due("reading " + r, x.may(r), fitting[r]);
        }
        holds(x, "bar r<12&r>0");
        due("the first", x.may(0), 2);
        due("the last", x.may(11), 0);
        holds(x, "bar r>11;bar r=12;bar r=99;bar r<0");
        due("the first", x.may(0), 2);
        due("the last", x.may(11), 2);
    }

    @Says(promise = 6, terms = "without one nothing takes anything, is glad or barred, give is 0.")
    private static void withoutAHouse() {
        CellarMeter x = things(0, 2, 1, 2);
        readings(x, 0, 0, 1);
        due("nothing is barred or takes anything", x.may(0), 4);
        due("give is 0", x.may(1), 0);
        readings(x, 0, 0, 0);
        due("nothing is glad", x.gladdest(-1), 0);
        due("part", x.part(0, 1), 0);
        due("alike", things(1, 3, 1, 3).alike(), 1);
    }

    @Says(promise = 6, terms = "give: the last one's n.")
    private static void theLastGive() {
        CellarMeter x = things(0, 2);
        readings(x, 0, 1, 2, 3);
        holds(x, "give 3;give 0;give 2");
        due("of three", x.may(0) + x.may(1) * 10 + x.may(2) * 100, 22);
        holds(x, "give 3;give 0");
        due("0", x.may(0), 0);
        holds(x, "take 0 1 1");
        due("none: 0", x.may(1), 0);
    }

    private static void fault(String text, int place) {
        CellarMeter x = new CellarMeter();
        due("fault of '" + text + "'", house(x, text), -10 - place);
        due("the text is gone", x.count(5), 0);
        due("no house", x.count(4), 0);
    }

    private static void whole(String text) {
        due("house of '" + text + "'", house(new CellarMeter(), text), 0);
    }

    /** Which of the four ways of two switches a bar bars, as bits. */
    private static void barred(String bar, int ways) {
        CellarMeter x = things(1, 2, 1, 2);
        holds(x, "bar " + bar);
        readings(x, 0, 0);
        for (int w = 0; w < 4; w++) {
            due(bar + " in way " + w, x.fits(0, w), 1 - (ways >> w & 1));
        }
    }
}
