/**
 * One meter for a whole house: what was on when, told from the readings alone.
 * The promises that it keeps stand in ../shared/DOC.md; README.md says how to use it.
 */
public final class CellarMeter {
    public static final int NONE = -1, BAD = -2, STATE = -3, FULL = -4;
    public static final long NO = Long.MIN_VALUE;

    private static final int NO_TALE = -5;
    private static final int FAULTS_FROM = -10;
    private static final int NOTHING = -11, CAST = -12, PLACE = -13, SIZE = -14;
    private static final int JUDGED_SHORT = 100;

    private static final int MOST_THINGS = 4, MOST_STATES = 4, MOST_WAYS = 64;
    private static final int MOST_READINGS = 12, MOST_WATTS = 9999;
    private static final int MOST_HOUSES = 6, MOST_BYTES = 100, MOST_CLAUSES = 12, MOST_NESTED = 4;
    private static final int MOST_TAPES = 6, MOST_ITEMS = 60;
    private static final int MOST_SECRET = 99, MOST_COARSE = 60;
    private static final int MOST_TRACED = 20;
    private static final int ROUND_OFF = 1000003;

    private final Household home = new Household();
    private final Text text = new Text();
    private final HouseReader reader = new HouseReader(text);
    private final House[] houses = new House[MOST_HOUSES];
    private final House bare = new House();
    private final Meter first = new Meter();
    private final Meter second = new Meter();
    private final Meter imagedFirst = new Meter();
    private final Meter imagedSecond = new Meter();
    private final Telling telling = new Telling(home, first);
    private final Trace latest = new Trace();
    private final Tape[] tapes = new Tape[MOST_TAPES];
    private int houseCount = 0;
    private int held = -1;
    private int imagedHeld = -1;
    private boolean imaged = false;

    public CellarMeter() {
        for (int i = 0; i < houses.length; i++) {
            houses[i] = new House();
        }
        for (int i = 0; i < tapes.length; i++) {
            tapes[i] = new Tape();
        }
    }

    // ---- things, houses

    public int thing(int kind, int m) {
        if (!Kinds.isKind(kind)) {
            return NONE;
        }
        if (m < 2 || m > MOST_STATES) {
            return BAD;
        }
        if (first.count > 0 || second.count > 0) {
            return STATE;
        }
        if (!home.hasRoomFor(m)) {
            return FULL;
        }
        home.add(kind, m);
        return home.count - 1;
    }

    public int of(int thing, int what) {
        Thing one = home.thingAt(thing);
        if (one == null) {
            return NONE;
        }
        if (what == 0) {
            return one.kind;
        }
        if (what == 1) {
            return one.states;
        }
        if (what >= 10 && what < 10 + one.states) {
            return heldHouse().takeOf(thing, what - 10);
        }
        if (what >= 20 && what < 20 + one.states) {
            return heldHouse().gladOf(thing, what - 20);
        }
        return NONE;
    }

    public int follows(int thing, int a, int b) {
        Thing one = home.thingAt(thing);
        if (one == null || !one.hasState(a) || !one.hasState(b)) {
            return NONE;
        }
        return Kinds.mayFollow(one.kind, one.states, a, b) ? 1 : 0;
    }

    public int feed(int bytes, int n) {
        if (n < 0 || n > 4) {
            return BAD;
        }
        if (text.length + n > MOST_BYTES) {
            return FULL;
        }
        for (int i = n - 1; i >= 0; i--) {
            text.add(bytes >>> 8 * i & 255);
        }
        return text.length;
    }

    public int house() {
        if (houseCount < 0 || houseCount >= houses.length) {
            return FULL;
        }
        int fault = reader.fill(houses[houseCount]);
        text.length = 0;
        if (fault >= 0) {
            return FAULTS_FROM - fault;
        }
        held = houseCount;
        houseCount++;
        return held;
    }

    // ---- readings

    public int reading(int meter, int watts) {
        Meter one = meterAt(meter);
        if (one == null) {
            return NONE;
        }
        if (watts < 0 || watts > MOST_WATTS) {
            return BAD;
        }
        if (one.count >= MOST_READINGS) {
            return FULL;
        }
        one.add(watts);
        return one.count;
    }

    public int clear(int meter) {
        Meter one = meterAt(meter);
        if (one == null) {
            return NONE;
        }
        int were = one.count;
        one.count = 0;
        return were;
    }

    public int fits(int reading, int way) {
        if (!first.has(reading) || !home.hasWay(way)) {
            return NONE;
        }
        return laid().fitsAt(reading, way) ? 1 : 0;
    }

    // ---- tales

    public int tales() {
        return laid().howMany();
    }

    public int may(int reading) {
        if (!first.has(reading)) {
            return NONE;
        }
        return laid().howManyFit(reading);
    }

    public int fewest(int i) {
        if (i != -1 && !first.has(i)) {
            return NONE;
        }
        return laid().ofFewest(i);
    }

    public int gladdest(int i) {
        if (i != -1 && !first.has(i)) {
            return NONE;
        }
        return laid().ofGladdest(i);
    }

    public int sure(int reading, int what) {
        if (!first.has(reading) || !isEither(what)) {
            return NONE;
        }
        return laid().thingsOn(reading, what == 0);
    }

    public int alike() {
        int pairs = 0;
        for (int a = 0; a < home.count; a++) {
            for (int b = a + 1; b < home.count; b++) {
                if (areAlike(a, b)) {
                    pairs++;
                }
            }
        }
        return pairs;
    }

    public int secret() {
        return laid().leastSecret();
    }

    public int part(int thing, int what) {
        if (home.thingAt(thing) == null || !isEither(what)) {
            return NONE;
        }
        return laid().partOf(thing, what == 1);
    }

    public int wires(int what) {
        if (!isEither(what)) {
            return NONE;
        }
        if (second.count != first.count) {
            return STATE;
        }
        return laid().wiredSets(second, what == 1);
    }

    public int coarse(int reading, int thing) {
        if (!first.has(reading) || home.thingAt(thing) == null) {
            return NONE;
        }
        return laid().leastCoarse(reading, thing);
    }

    // ---- judging, the image, acts, tapes

    public int judge(int tape, int i) {
        Tape one = tapeAt(tape);
        if (one == null) {
            return NONE;
        }
        if (!one.isNothing() && one.sort != Tape.BYTES) {
            return CAST;
        }
        return laid().judged(one, i);
    }

    public int image() {
        imagedFirst.copy(first);
        imagedSecond.copy(second);
        imagedHeld = held;
        imaged = true;
        return first.count;
    }

    public int undo() {
        if (!imaged) {
            return STATE;
        }
        first.copy(imagedFirst);
        second.copy(imagedSecond);
        held = imagedHeld;
        return first.count;
    }

    public int act(int thing, int act, int x) {
        latest.ran = 0;
        Thing one = home.thingAt(thing);
        if (one == null || act < 0 || act >= Acts.COUNT) {
            return 0;
        }
        return Acts.start(latest, one, act, x);
    }

    public int trace(int i) {
        return latest.has(i) ? latest.bodyAt(i) : NONE;
    }

    public int taken(int thing, int k) {
        if (!Kinds.isKind(k)) {
            return BAD;
        }
        Thing one = home.thingAt(thing);
        if (one == null) {
            return NOTHING;
        }
        return Kinds.isUnder(one.kind, k) ? one.kind : CAST;
    }

    public int count(int what) {
        switch (what) {
            case 0:
                return home.count;
            case 1:
                return home.ways;
            case 2:
                return first.count;
            case 3:
                return second.count;
            case 4:
                return houseCount;
            case 5:
                return text.length;
            case 6:
                return latest.ran;
            default:
                return BAD;
        }
    }

    public int tape(int tape, int sort, int n) {
        Tape one = tapeAt(tape);
        if (one == null) {
            return NONE;
        }
        if (sort == Tape.NO_SORT) {
            one.become(sort, 0);
            return 1;
        }
        if (sort < Tape.BYTES || sort > Tape.BOOLEANS || n > MOST_ITEMS) {
            return BAD;
        }
        if (n < 0) {
            return SIZE;
        }
        one.become(sort, n);
        return 1;
    }

    public int item(int tape, int i, long v) {
        Tape one = tapeAt(tape);
        if (one == null) {
            return NONE;
        }
        if (one.isNothing()) {
            return NOTHING;
        }
        if (!one.has(i)) {
            return PLACE;
        }
        one.put(i, v);
        return 1;
    }

    public long read(int tape, int i) {
        Tape one = tapeAt(tape);
        if (one == null || !one.has(i)) {
            return NO;
        }
        return one.itemAt(i);
    }

    public int shift(int tape, int i, int other, int j, int n) {
        Tape from = tapeAt(tape);
        Tape to = tapeAt(other);
        if (from == null || to == null) {
            return NONE;
        }
        if (from.isNothing() || to.isNothing()) {
            return NOTHING;
        }
        if (from.sort != to.sort) {
            return CAST;
        }
        if (!from.hasRun(i, n) || !to.hasRun(j, n)) {
            return PLACE;
        }
        System.arraycopy(from.items, i, to.items, j, n);
        return n;
    }

    // ---- what several calls use

    private static boolean isEither(int what) {
        return what == 0 || what == 1;
    }

    private House heldHouse() {
        return held >= 0 && held < houses.length ? houses[held] : bare;
    }

    private Meter meterAt(int meter) {
        if (meter == 0) {
            return first;
        }
        return meter == 1 ? second : null;
    }

    private Tape tapeAt(int tape) {
        return tape >= 0 && tape < tapes.length ? tapes[tape] : null;
    }

    private Telling laid() {
        telling.lay(heldHouse());
        return telling;
    }

    private boolean areAlike(int a, int b) {
        Thing one = home.thingAt(a);
        Thing two = home.thingAt(b);
        if (one == null || two == null || one.kind != two.kind || one.states != two.states) {
            return false;
        }
        House house = heldHouse();
        if (house.names(a) || house.names(b)) {
            return false;
        }
        for (int k = 0; k < one.states; k++) {
            if (house.takeOf(a, k) != house.takeOf(b, k) || house.gladOf(a, k) != house.gladOf(b, k)) {
                return false;
            }
        }
        return true;
    }

    /** The tree of kinds, and which state follows which in each. */
    private static final class Kinds {
        static final int SWITCH = 1, ROUND = 2, WARM = 3, STEPS = 4, ALWAYS = 5, HELD = 6;
        static final int COUNT = 7;
        private static final int[] ABOVE = {-1, 0, 0, 0, SWITCH, 0, ALWAYS};

        private Kinds() {
        }

        static boolean isKind(int kind) {
            return kind >= 0 && kind < COUNT;
        }

        static int above(int kind) {
            return isKind(kind) ? ABOVE[kind] : -1;
        }

        static boolean isUnder(int kind, int k) {
            int at = kind;
            for (int step = 0; step < COUNT && at != k; step++) {
                at = above(at);
            }
            return at == k;
        }

        static boolean mayFollow(int kind, int states, int a, int b) {
            switch (kind) {
                case SWITCH:
                    return mayFollowSwitch(a, b);
                case ROUND:
                    return b == a || b == (a == states - 1 ? 0 : a + 1);
                case WARM:
                    return b == a || b == a - 1 || b == 0 || a == 0 && b == states - 1;
                case STEPS:
                    return mayFollowSwitch(a, b) || b == a - 1 || b == a + 1;
                case ALWAYS:
                    return a != 0 && b != 0;
                case HELD:
                    return a != 0 && b == a;
                default:
                    return true;
            }
        }

        private static boolean mayFollowSwitch(int a, int b) {
            return b == a || b == 0 || a == 0;
        }
    }

    private static final class Thing {
        final int number;
        final int kind;
        final int states;

        Thing(int number, int kind, int states) {
            this.number = number;
            this.kind = kind;
            this.states = states;
        }

        boolean hasState(int k) {
            return k >= 0 && k < states;
        }
    }

    /**
     * All things, and their ways. A set of ways is one long, bit w for way w: there are 64 at most,
     * and so a step from one reading to the next is a few ands and ors.
     */
    private static final class Household {
        private final Thing[] things = new Thing[MOST_THINGS];
        private final long[] waysIn = new long[MOST_THINGS * MOST_STATES];
        private final long[] after = new long[MOST_WAYS];
        private final long[] before = new long[MOST_WAYS];
        private final int[] figures = new int[MOST_WAYS];
        private long lawful = 1;
        private int count = 0;
        private int ways = 1;

        Household() {
            after[0] = 1;
            before[0] = 1;
        }

        Thing thingAt(int i) {
            return i >= 0 && i < count && i < things.length ? things[i] : null;
        }

        boolean hasWay(int way) {
            return way >= 0 && way < ways;
        }

        boolean hasRoomFor(int states) {
            return count < MOST_THINGS && ways * states <= MOST_WAYS;
        }

        void add(int kind, int states) {
            if (count >= things.length || !hasRoomFor(states)) {
                return;
            }
            int all = (1 << states) - 1;
            boolean neverOff = Kinds.isUnder(kind, Kinds.ALWAYS);
            long each = (1L << ways) - 1;
            for (int i = 0; i < count * MOST_STATES; i++) {
                waysIn[i] = spread(waysIn[i], all);
            }
            for (int k = 0; k < states; k++) {
                waysIn[count * MOST_STATES + k] = spread(each, 1 << k);
            }
            // State 0 comes last: its rows are those of before, which the other states' rows are made of.
            for (int k = states - 1; k >= 0; k--) {
                addRows(kind, states, k);
            }
            lawful = spread(lawful, neverOff ? all - 1 : all);
            things[count] = new Thing(count, kind, states);
            count++;
            ways = ways * states;
        }

        private void addRows(int kind, int states, int k) {
            int behind = 0;
            int ahead = 0;
            for (int other = 0; other < states; other++) {
                if (Kinds.mayFollow(kind, states, k, other)) {
                    behind |= 1 << other;
                }
                if (Kinds.mayFollow(kind, states, other, k)) {
                    ahead |= 1 << other;
                }
            }
            for (int w = 0; w < ways; w++) {
                int at = w + ways * k;
                after[at] = spread(after[w], behind);
                before[at] = spread(before[w], ahead);
                figures[at] = figures[w] | k << 2 * count;
            }
        }

        /** A set of ways of the things so far, with a next thing in each of some states (as bits). */
        private long spread(long set, int states) {
            long spread = 0;
            for (int k = 0; k < MOST_STATES; k++) {
                if ((states >> k & 1) != 0) {
                    spread |= set << ways * k;
                }
            }
            return spread;
        }

        long lawfulWays() {
            return lawful;
        }

        long waysWith(int thing, int state) {
            Thing one = thingAt(thing);
            return one != null && one.hasState(state) ? waysIn[thing * MOST_STATES + state] : 0;
        }

        long afterWay(int way) {
            return hasWay(way) ? after[way] : 0;
        }

        long afterAny(long set) {
            return joined(after, set);
        }

        long beforeAny(long set) {
            return joined(before, set);
        }

        private long joined(long[] rows, long set) {
            long all = 0;
            for (int w = 0; w < ways && w < rows.length; w++) {
                if ((set >>> w & 1) != 0) {
                    all |= rows[w];
                }
            }
            return all;
        }

        int changes(int a, int b) {
            if (!hasWay(a) || !hasWay(b)) {
                return 0;
            }
            int unlike = figures[a] ^ figures[b];
            return Integer.bitCount((unlike | unlike >> 1) & 0x55);
        }

        /** For each way, the sum of what a table tells of some things (as bits) in their states. */
        void sum(int[] table, int set, int sign, int[] sums) {
            for (int w = 0; w < ways && w < sums.length; w++) {
                int sum = 0;
                for (int t = 0; t < count; t++) {
                    int at = t * MOST_STATES + (figures[w] >> 2 * t & 3);
                    if ((set >> t & 1) != 0 && at < table.length) {
                        sum += table[at];
                    }
                }
                sums[w] = sign * sum;
            }
        }
    }

    private static final class Text {
        private final int[] bytes = new int[MOST_BYTES];
        private int length = 0;

        void add(int b) {
            if (length >= 0 && length < bytes.length) {
                bytes[length] = b;
                length++;
            }
        }

        int byteAt(int place) {
            return place >= 0 && place < length && place < bytes.length ? bytes[place] : -1;
        }
    }

    /**
     * What one text told. The bars are kept as one row of steps, operands ahead of their operator,
     * since a house may come before its things: only a question knows which ways there are.
     */
    private static final class House {
        static final int NOT = -1, AND = -2, OR = -3;
        static final int PLACE_LETTER = 4;
        private static final int LETTERS = 5, SIGNS = 3;

        private final int[] takes = new int[MOST_THINGS * MOST_STATES];
        private final int[] glads = new int[MOST_THINGS * MOST_STATES];
        private final int[] steps = new int[MOST_BYTES];
        private int stepCount = 0;
        private int named = 0;
        private int give = 0;

        void empty() {
            for (int i = 0; i < takes.length && i < glads.length; i++) {
                takes[i] = 0;
                glads[i] = 0;
            }
            stepCount = 0;
            named = 0;
            give = 0;
        }

        int takeOf(int thing, int state) {
            int at = placeOf(thing, state);
            return at >= 0 && at < takes.length ? takes[at] : 0;
        }

        int gladOf(int thing, int state) {
            int at = placeOf(thing, state);
            return at >= 0 && at < glads.length ? glads[at] : 0;
        }

        void setTake(int thing, int state, int n) {
            int at = placeOf(thing, state);
            if (at >= 0 && at < takes.length) {
                takes[at] = n;
            }
        }

        void setGlad(int thing, int state, int n) {
            int at = placeOf(thing, state);
            if (at >= 0 && at < glads.length) {
                glads[at] = n;
            }
        }

        private static int placeOf(int thing, int state) {
            boolean both = thing >= 0 && thing < MOST_THINGS && state >= 0 && state < MOST_STATES;
            return both ? thing * MOST_STATES + state : -1;
        }

        boolean names(int thing) {
            return (named >> thing & 1) != 0;
        }

        void addTest(int letter, int sign, int number) {
            named |= 1 << letter;
            addStep((number * SIGNS + sign) * LETTERS + letter);
        }

        void addStep(int step) {
            if (stepCount >= 0 && stepCount < steps.length) {
                steps[stepCount] = step;
                stepCount++;
            }
        }

        /** The ways in which some bar holds at a place (and bits beyond the ways: those say nothing). */
        long barred(Household home, int place, long[] stack) {
            int height = 0;
            for (int i = 0; i < stepCount && i < steps.length; i++) {
                int step = steps[i];
                if (step >= 0) {
                    height = push(stack, height, tested(step, home, place));
                } else if (step == NOT) {
                    height = negate(stack, height);
                } else {
                    height = join(stack, height, step == AND);
                }
            }
            long barred = 0;
            for (int i = 0; i < height && i < stack.length; i++) {
                barred |= stack[i];
            }
            return barred;
        }

        private static int push(long[] stack, int height, long set) {
            if (height < 0 || height >= stack.length) {
                return height;
            }
            stack[height] = set;
            return height + 1;
        }

        private static int negate(long[] stack, int height) {
            if (height >= 1 && height <= stack.length) {
                stack[height - 1] = ~stack[height - 1];
            }
            return height;
        }

        private static int join(long[] stack, int height, boolean and) {
            if (height < 2 || height > stack.length) {
                return height;
            }
            long right = stack[height - 1];
            long left = stack[height - 2];
            stack[height - 2] = and ? left & right : left | right;
            return height - 1;
        }

        private static long tested(int step, Household home, int place) {
            int letter = step % LETTERS;
            int sign = step / LETTERS % SIGNS;
            int number = step / (LETTERS * SIGNS);
            Thing thing = letter == PLACE_LETTER ? null : home.thingAt(letter);
            if (thing == null) {
                return compares(letter == PLACE_LETTER ? place : 0, sign, number) ? -1L : 0L;
            }
            long set = 0;
            for (int k = 0; k < thing.states; k++) {
                if (compares(k, sign, number)) {
                    set |= home.waysWith(letter, k);
                }
            }
            return set;
        }

        private static boolean compares(int value, int sign, int number) {
            if (sign == 0) {
                return value < number;
            }
            return sign == 1 ? value == number : value > number;
        }
    }

    /** Reads the text into a house, up to the first byte with which no house begins. */
    private static final class HouseReader {
        private final Text text;
        private House house = null;
        private int place = 0;
        private boolean right = true;

        HouseReader(Text text) {
            this.text = text;
        }

        /** The fault's place, or -1 where there is none. */
        int fill(House into) {
            if (into == null) {
                return 0;
            }
            house = into;
            house.empty();
            place = 0;
            right = true;
            boolean more = true;
            for (int i = 1; i <= MOST_CLAUSES && more; i++) {
                readClause();
                more = right && place < text.length;
                if (more) {
                    right = i < MOST_CLAUSES;
                    readSign(';');
                }
                more = more && right;
            }
            return right ? -1 : place;
        }

        private void readClause() {
            int start = text.byteAt(place);
            if (start == 'b') {
                readWord("bar ");
                readEither(0);
            } else if (start == 'g' && text.byteAt(place + 1) == 'l') {
                readWord("glad ");
                readTable(false);
            } else if (start == 'g') {
                readWord("give ");
                int n = readNumber(3);
                house.give = right ? n : house.give;
            } else {
                readWord("take ");
                readTable(true);
            }
        }

        private void readTable(boolean takes) {
            int thing = readOneOf("0123");
            readSign(' ');
            int state = readOneOf("0123");
            readSign(' ');
            int n = readNumber(3);
            if (!right) {
                return;
            }
            if (takes) {
                house.setTake(thing, state, n);
            } else {
                house.setGlad(thing, state, n);
            }
        }

        private void readEither(int depth) {
            readBoth(depth);
            for (int i = 0; i < MOST_BYTES && right && text.byteAt(place) == '|'; i++) {
                place++;
                readBoth(depth);
                house.addStep(House.OR);
            }
        }

        private void readBoth(int depth) {
            readSingle(depth);
            for (int i = 0; i < MOST_BYTES && right && text.byteAt(place) == '&'; i++) {
                place++;
                readSingle(depth);
                house.addStep(House.AND);
            }
        }

        private void readSingle(int depth) {
            int start = text.byteAt(place);
            if (start != '!' && start != '(') {
                readTest();
                return;
            }
            right = right && depth < MOST_NESTED;
            if (right) {
                place++;
                readNested(start == '!', depth + 1);
            }
        }

        private void readNested(boolean negated, int depth) {
            if (negated) {
                readSingle(depth);
                house.addStep(House.NOT);
            } else {
                readEither(depth);
                readSign(')');
            }
        }

        private void readTest() {
            int letter = readOneOf("abcdr");
            int sign = readOneOf("<=>");
            int number = readNumber(2);
            if (right) {
                house.addTest(letter, sign, number);
            }
        }

        private int readNumber(int most) {
            int number = readOneOf("0123456789");
            for (int i = 1; i < most && right && isFigure(text.byteAt(place)); i++) {
                number = number * 10 + text.byteAt(place) - '0';
                place++;
            }
            return number;
        }

        private static boolean isFigure(int b) {
            return b >= '0' && b <= '9';
        }

        private void readWord(String word) {
            for (int i = 0; i < word.length() && right; i++) {
                readSign(word.charAt(i));
            }
        }

        private void readSign(int sign) {
            right = right && text.byteAt(place) == sign;
            if (right) {
                place++;
            }
        }

        private int readOneOf(String signs) {
            int b = text.byteAt(place);
            for (int i = 0; i < signs.length() && right; i++) {
                if (signs.charAt(i) == b) {
                    place++;
                    return i;
                }
            }
            right = false;
            return 0;
        }
    }

    private static final class Meter {
        private final int[] watts = new int[MOST_READINGS];
        private int count = 0;

        boolean has(int i) {
            return i >= 0 && i < count;
        }

        int wattsAt(int i) {
            return has(i) && i < watts.length ? watts[i] : 0;
        }

        void add(int reading) {
            if (count >= 0 && count < watts.length) {
                watts[count] = reading;
                count++;
            }
        }

        void copy(Meter other) {
            for (int i = 0; i < watts.length && i < other.watts.length; i++) {
                watts[i] = other.watts[i];
            }
            count = other.count;
        }
    }

    /**
     * What the readings tell. A question lays the table first: which ways are open and which fit at
     * each reading. Its rows are made once and used again by each question.
     */
    private static final class Telling {
        private static final int ALL_THINGS = 15;
        private static final int STACK = 24;

        private final Household home;
        private final Meter meter;
        private final long[] open = new long[MOST_READINGS];
        private final long[] fit = new long[MOST_READINGS];
        private final long[] inTales = new long[MOST_READINGS];
        private final long[] stack = new long[STACK];
        private final int[] totals = new int[MOST_WAYS];
        private final int[] sums = new int[MOST_WAYS];
        private final int[] counts = new int[MOST_WAYS];
        private final int[] newer = new int[MOST_WAYS];
        private final int[] cheapest = new int[MOST_READINGS * MOST_WAYS];
        private final int[] row = new int[MOST_READINGS];
        private House house = null;
        private int length = 0;
        private int ways = 1;

        Telling(Household home, Meter meter) {
            this.home = home;
            this.meter = meter;
        }

        void lay(House holding) {
            house = holding;
            length = Math.min(meter.count, MOST_READINGS);
            ways = Math.min(home.ways, MOST_WAYS);
            home.sum(house.takes, ALL_THINGS, 1, totals);
            for (int r = 0; r < length; r++) {
                open[r] = home.lawfulWays() & ~house.barred(home, r, stack);
                fit[r] = near(totals, r, meter.wattsAt(r), house.give);
            }
        }

        /** The open ways at a reading whose sum is no farther from an aim than what is given. */
        private long near(int[] sumOf, int reading, int aim, int give) {
            if (reading < 0 || reading >= open.length) {
                return 0;
            }
            long near = 0;
            for (int w = 0; w < ways && w < sumOf.length; w++) {
                if (isIn(open[reading], w) && Math.abs(sumOf[w] - aim) <= give) {
                    near |= 1L << w;
                }
            }
            return near;
        }

        private static boolean isIn(long set, int way) {
            return (set >>> way & 1) != 0;
        }

        boolean fitsAt(int reading, int way) {
            return reading >= 0 && reading < length && home.hasWay(way) && isIn(fit[reading], way);
        }

        int howManyFit(int reading) {
            return reading >= 0 && reading < length ? Long.bitCount(fit[reading]) : 0;
        }

        int howMany() {
            if (length == 0) {
                return 1;
            }
            for (int w = 0; w < ways; w++) {
                counts[w] = isIn(fit[0], w) ? 1 : 0;
            }
            for (int r = 1; r < length; r++) {
                countStep(r);
            }
            int all = 0;
            for (int w = 0; w < ways; w++) {
                all = (all + counts[w]) % ROUND_OFF;
            }
            return all;
        }

        private void countStep(int reading) {
            for (int w = 0; w < ways; w++) {
                newer[w] = 0;
            }
            for (int w = 0; w < ways; w++) {
                long next = counts[w] == 0 ? 0 : home.afterWay(w) & fit[reading];
                for (int v = 0; v < ways && next != 0; v++) {
                    if (isIn(next, v)) {
                        newer[v] = (newer[v] + counts[w]) % ROUND_OFF;
                    }
                }
            }
            for (int w = 0; w < ways; w++) {
                counts[w] = newer[w];
            }
        }

        /** Whether there is a tale; each reading keeps the ways that tales reach so far. */
        private boolean reach() {
            long reached = home.lawfulWays();
            for (int r = 0; r < length && reached != 0; r++) {
                reached = fit[r] & (r == 0 ? reached : home.afterAny(reached));
                inTales[r] = reached;
            }
            return reached != 0 || length == 0;
        }

        /** Behind reach(): keeps the ways, from a reading on, from which a tale comes to its end. */
        private void trimBackTo(int reading) {
            for (int r = length - 2; r >= 0 && r >= reading; r--) {
                inTales[r] &= home.beforeAny(inTales[r + 1]);
            }
        }

        /**
         * The least cost of a tale, a way costing what sums tells of it and a change of a thing as
         * told, with the first such tale in row. There has to be a tale.
         */
        private int findCheapest(int changeCost) {
            trimBackTo(0);
            for (int r = length - 1; r >= 0; r--) {
                for (int w = 0; w < ways; w++) {
                    if (isIn(inTales[r], w)) {
                        int next = bestNext(r, w, changeCost);
                        cheapest[r * MOST_WAYS + w] = sums[w] + (next < 0 ? 0 : costOf(r + 1, w, next, changeCost));
                    }
                }
            }
            int start = bestNext(-1, -1, 0);
            if (start < 0) {
                return 0;
            }
            row[0] = start;
            for (int r = 1; r < length; r++) {
                row[r] = bestNext(r - 1, row[r - 1], changeCost);
            }
            return cheapest[start];
        }

        /** The first of the cheapest ways behind a way of a reading; before reading 0 any way goes. */
        private int bestNext(int reading, int way, int changeCost) {
            int next = reading + 1;
            if (next < 0 || next >= length) {
                return -1;
            }
            long choices = inTales[next] & (reading < 0 ? -1L : home.afterWay(way));
            int best = -1;
            int least = 0;
            for (int v = 0; v < ways; v++) {
                if (isIn(choices, v)) {
                    int cost = costOf(next, way, v, changeCost);
                    if (best < 0 || cost < least) {
                        best = v;
                        least = cost;
                    }
                }
            }
            return best;
        }

        private int costOf(int reading, int from, int way, int changeCost) {
            int at = reading * MOST_WAYS + way;
            int changing = changeCost == 0 ? 0 : changeCost * home.changes(from, way);
            return at >= 0 && at < cheapest.length ? changing + cheapest[at] : changing;
        }

        int ofFewest(int i) {
            if (!reach()) {
                return NO_TALE;
            }
            home.sum(house.takes, 0, 1, sums);
            int changes = findCheapest(1);
            return i >= 0 && i < length ? row[i] : changes;
        }

        int ofGladdest(int i) {
            if (!reach()) {
                return NO_TALE;
            }
            home.sum(house.glads, ALL_THINGS, -1, sums);
            int sad = findCheapest(0);
            return i >= 0 && i < length ? row[i] : -sad;
        }

        int partOf(int thing, boolean most) {
            if (!reach()) {
                return NO_TALE;
            }
            int sign = most ? -1 : 1;
            home.sum(house.takes, 1 << thing, sign, sums);
            return sign * findCheapest(0);
        }

        int thingsOn(int reading, boolean always) {
            if (reading < 0 || reading >= length || !reach()) {
                return 0;
            }
            trimBackTo(reading);
            int things = 0;
            for (int t = 0; t < home.count; t++) {
                long off = home.waysWith(t, 0);
                long against = always ? inTales[reading] & off : 0;
                if (against == 0 && (inTales[reading] & ~off) != 0) {
                    things |= 1 << t;
                }
            }
            return things;
        }

        int leastSecret() {
            if (reach()) {
                return 0;
            }
            for (int n = 1; n <= MOST_SECRET; n++) {
                boolean all = true;
                for (int r = 0; r < length && all; r++) {
                    int watts = meter.wattsAt(r);
                    fit[r] = near(totals, r, watts, house.give) | near(totals, r, watts - n, house.give);
                    all = fit[r] != 0;
                }
                if (all && reach()) {
                    return n;
                }
            }
            return NO_TALE;
        }

        int wiredSets(Meter second, boolean theFirst) {
            for (int r = 0; r < length; r++) {
                open[r] = fit[r];
            }
            int found = 0;
            for (int set = 0; set < 1 << home.count; set++) {
                home.sum(house.takes, set, 1, sums);
                boolean all = true;
                for (int r = 0; r < length && all; r++) {
                    fit[r] = near(sums, r, second.wattsAt(r), house.give);
                    all = fit[r] != 0;
                }
                if (all && reach()) {
                    if (theFirst) {
                        return set;
                    }
                    found++;
                }
            }
            return theFirst ? NO_TALE : found;
        }

        int leastCoarse(int reading, int thing) {
            if (reading < 0 || reading >= length) {
                return NO_TALE;
            }
            long off = home.waysWith(thing, 0);
            for (int c = 1; c <= MOST_COARSE; c++) {
                boolean all = true;
                for (int r = 0; r < length && all; r++) {
                    fit[r] = near(totals, r, meter.wattsAt(r) / c * c, house.give + c - 1);
                    all = fit[r] != 0;
                }
                if (all && reach()) {
                    trimBackTo(reading);
                    if ((inTales[reading] & off) != 0 && (inTales[reading] & ~off) != 0) {
                        return c;
                    }
                }
            }
            return NO_TALE;
        }

        int judged(Tape tape, int from) {
            long before = 0;
            for (int r = 0; r < length; r++) {
                // Beyond the greatest int the sum turns below 0, and there is no such place either.
                if (from < 0 || !tape.has(from + r)) {
                    return JUDGED_SHORT + r;
                }
                long item = tape.itemAt(from + r);
                if (item < 0 || item >= ways) {
                    return r;
                }
                int way = (int) item;
                if (!isIn(fit[r], way) || r > 0 && !isIn(before, way)) {
                    return r;
                }
                before = home.afterWay(way);
            }
            return NO_TALE;
        }
    }

    /** The bodies that ran, as they began: all are counted, the first are kept. */
    private static final class Trace {
        private final int[] bodies = new int[MOST_TRACED];
        private int ran = 0;

        void add(int body) {
            if (ran >= 0 && ran < bodies.length) {
                bodies[ran] = body;
            }
            ran++;
        }

        boolean has(int i) {
            return i >= 0 && i < ran && i < bodies.length;
        }

        int bodyAt(int i) {
            return has(i) ? bodies[i] : 0;
        }
    }

    /** What a thing does when it is asked: the body of its kind, or of the next one above that has one. */
    private static final class Acts {
        static final int COUNT = 3;
        private static final int TAKES = 0, FOLLOWS = 1, TELLS = 2;
        private static final int DEEPEST = 40;
        // A row of three for each kind; 0 where it has no body.
        private static final int[] BODIES = {
            10, 11, 12, 0, 20, 0, 30, 0, 0, 0, 0, 40, 50, 51, 0, 0, 0, 60, 71, 70, 0
        };

        private Acts() {
        }

        static int start(Trace trace, Thing thing, int act, int x) {
            return perform(trace, thing, thing.kind, act, x, 0);
        }

        private static int perform(Trace trace, Thing thing, int kind, int act, int x, int depth) {
            int owner = ownerOf(kind, act);
            if (owner < 0 || depth > DEEPEST) {
                return 0;
            }
            int own = thing.kind;
            int up = Kinds.above(owner);
            int deeper = depth + 1;
            int body = bodyOf(owner, act);
            trace.add(body);
            switch (body) {
                case 10:
                    return x + thing.number;
                case 11:
                    return perform(trace, thing, own, TAKES, x, deeper) - thing.states;
                case 12:
                    return perform(trace, thing, own, FOLLOWS, x, deeper) * 2;
                case 20:
                    return perform(trace, thing, up, FOLLOWS, x, deeper) ^ 6;
                case 30:
                    return perform(trace, thing, up, TAKES, x * 3, deeper);
                case 40:
                    return perform(trace, thing, up, TELLS, x, deeper)
                        + perform(trace, thing, own, FOLLOWS, 1, deeper);
                case 50:
                    return -perform(trace, thing, up, TAKES, x, deeper);
                case 51:
                    return perform(trace, thing, up, FOLLOWS, x + 1, deeper);
                case 60:
                    return perform(trace, thing, up, TELLS, x - thing.number, deeper);
                case 70:
                    return perform(trace, thing, up, FOLLOWS, x, deeper)
                        + perform(trace, thing, up, TAKES, 2, deeper);
                case 71:
                    return perform(trace, thing, up, TAKES, x, deeper) ^ thing.states;
                default:
                    return 0;
            }
        }

        private static int ownerOf(int kind, int act) {
            int at = kind;
            for (int step = 0; step < Kinds.COUNT && at >= 0 && bodyOf(at, act) == 0; step++) {
                at = Kinds.above(at);
            }
            return at;
        }

        private static int bodyOf(int kind, int act) {
            int at = kind * COUNT + act;
            return at >= 0 && at < BODIES.length ? BODIES[at] : 0;
        }
    }

    /** Items are kept as longs whatever their sort, cut to it as they come. */
    private static final class Tape {
        static final int NO_SORT = -1, BYTES = 0, SHORTS = 1, INTS = 2, BOOLEANS = 4;

        private final long[] items = new long[MOST_ITEMS];
        private int sort = NO_SORT;
        private int size = 0;

        boolean isNothing() {
            return sort == NO_SORT;
        }

        void become(int newSort, int newSize) {
            sort = newSort;
            size = newSize;
            for (int i = 0; i < items.length; i++) {
                items[i] = 0;
            }
        }

        boolean has(int i) {
            return i >= 0 && i < size && i < items.length;
        }

        boolean hasRun(int i, int n) {
            return i >= 0 && n >= 0 && i <= size && n <= size - i;
        }

        long itemAt(int i) {
            return has(i) ? items[i] : 0;
        }

        void put(int i, long v) {
            if (has(i)) {
                items[i] = cut(v);
            }
        }

        private long cut(long v) {
            switch (sort) {
                case BYTES:
                    return (byte) v;
                case SHORTS:
                    return (short) v;
                case INTS:
                    return (int) v;
                case BOOLEANS:
                    return v != 0 ? 1 : 0;
                default:
                    return v;
            }
        }
    }
}
