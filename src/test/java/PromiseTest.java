/** For each promise of the document: ordinary inputs, the edges that it names, and wrong inputs. */
public final class PromiseTest {
    private static final int NO_TALE = -5, NOTHING = -11, CAST = -12, PLACE = -13, SIZE = -14;
    private static int right = 0;
    private static int wrong = 0;
    private static String now = "";

    private static void due(String what, long got, long want) {
        if (got == want) {
            right++;
            return;
        }
        wrong++;
        System.out.println(now + ": " + what + " answered " + got + ", due is " + want);
    }

    private static CellarMeter meter(int... kindsAndStates) {
        CellarMeter x = new CellarMeter();
        for (int i = 0; i < kindsAndStates.length; i += 2) {
            due("thing", x.thing(kindsAndStates[i], kindsAndStates[i + 1]), i / 2);
        }
        return x;
    }

    private static int house(CellarMeter x, String text) {
        for (int i = 0; i < text.length(); i++) {
            x.feed(text.charAt(i), 1);
        }
        return x.house();
    }

    private static void readings(CellarMeter x, int meter, int... watts) {
        x.clear(meter);
        for (int i = 0; i < watts.length; i++) {
            due("reading", x.reading(meter, watts[i]), i + 1);
        }
    }

    private static void fault(String text, int place) {
        due("fault of '" + text + "'", house(new CellarMeter(), text), -10 - place);
    }

    private static void whole(String text) {
        due("house of '" + text + "'", house(new CellarMeter(), text), 0);
    }

    public static void main(String[] args) {
        face();
        newObject();
        thing();
        of();
        follows();
        feed();
        house();
        bars();
        reading();
        clear();
        fits();
        tales();
        may();
        fewest();
        deadEnds();
        gladdest();
        sure();
        alike();
        secret();
        part();
        wires();
        coarse();
        judge();
        imageAndUndo();
        act();
        trace();
        taken();
        count();
        tape();
        itemAndRead();
        shift();
        System.out.println(right + " answers right, " + wrong + " wrong");
        if (wrong > 0) {
            System.exit(1);
        }
    }

    private static void face() {
        now = "constants";
        due("NONE", CellarMeter.NONE, -1);
        due("BAD", CellarMeter.BAD, -2);
        due("STATE", CellarMeter.STATE, -3);
        due("FULL", CellarMeter.FULL, -4);
        due("NO", CellarMeter.NO, Long.MIN_VALUE);
    }

    private static void newObject() {
        now = "promise 1";
        CellarMeter x = new CellarMeter();
        int[] counts = {0, 1, 0, 0, 0, 0, 0};
        for (int i = 0; i < counts.length; i++) {
            due("count " + i, x.count(i), counts[i]);
        }
        due("tales", x.tales(), 1);
        due("undo", x.undo(), -3);
        due("read", x.read(0, 0), Long.MIN_VALUE);
    }

    private static void thing() {
        now = "promise 2";
        CellarMeter x = meter(6, 4, 0, 4);
        due("kind -1", x.thing(-1, 9), -1);
        due("kind 7", x.thing(7, 2), -1);
        due("m 1", x.thing(0, 1), -2);
        due("m 5", x.thing(0, 5), -2);
        due("64 ways", x.thing(4, 4), 2);
        due("more than 64 ways", x.thing(4, 2), -4);
        due("ways", x.count(1), 64);
        x = meter(0, 2, 1, 2, 2, 2, 3, 2);
        due("a fifth", x.thing(5, 2), -4);
        x = new CellarMeter();
        x.reading(0, 1);
        due("with a reading", x.thing(0, 2), -3);
        due("kind before state", x.thing(8, 2), -1);
        due("m before state", x.thing(0, 0), -2);
        x.clear(0);
        x.reading(1, 1);
        due("with a second meter's reading", x.thing(0, 2), -3);
        x.clear(1);
        due("cleared", x.thing(0, 2), 0);
    }

    private static void of() {
        now = "promise 3";
        CellarMeter x = meter(3, 3, 6, 4);
        due("kind", x.of(1, 0), 6);
        due("states", x.of(1, 1), 4);
        due("takes nothing", x.of(1, 13), 0);
        house(x, "take 0 0 7;take 1 3 999;glad 0 2 12;take 0 0 8;take 3 3 1");
        due("the last clause", x.of(0, 10), 8);
        due("take", x.of(1, 13), 999);
        due("glad", x.of(0, 22), 12);
        due("not glad", x.of(0, 21), 0);
        due("not glad in 0", x.of(0, 20), 0);
        house(x, "glad 0 0 3;glad 1 3 4");
        due("glad in 0", x.of(0, 20), 3);
        due("glad in 3", x.of(1, 23), 4);
        int[] none = {-1, 2, 9, 13, 19, 23, 30};
        for (int what : none) {
            due("what " + what, x.of(0, what), -1);
        }
        due("thing 2", x.of(2, 0), -1);
        due("thing -1", x.of(-1, 0), -1);
        house(x, "give 1");
        due("a newer house", x.of(1, 13), 0);
    }

    private static void follows() {
        now = "promise 4";
        // A row for each kind, a figure of row a: the states b that follow, as bits.
        int[][] all = {
            {15, 15, 15, 15}, {15, 3, 5, 9}, {3, 6, 12, 9}, {9, 3, 7, 13},
            {15, 7, 15, 13}, {0, 14, 14, 14}, {0, 2, 4, 8}
        };
        for (int kind = 0; kind < 7; kind++) {
            CellarMeter x = meter(kind, 4);
            for (int a = 0; a < 4; a++) {
                for (int b = 0; b < 4; b++) {
                    due("kind " + kind + ": " + a + " " + b, x.follows(0, a, b), all[kind][a] >> b & 1);
                }
            }
        }
        CellarMeter x = meter(2, 2, 3, 2);
        due("a round of two", x.follows(0, 1, 0), 1);
        due("warm, last of two", x.follows(1, 0, 1), 1);
        due("no thing", x.follows(2, 0, 0), -1);
        due("thing -1", x.follows(-1, 0, 0), -1);
        due("a", x.follows(0, 2, 0), -1);
        due("b", x.follows(0, 0, 2), -1);
        due("a -1", x.follows(0, -1, 0), -1);
        due("b -1", x.follows(0, 0, -1), -1);
    }

    private static void feed() {
        now = "promise 5";
        CellarMeter x = new CellarMeter();
        due("give", x.feed('g' << 24 | 'i' << 16 | 'v' << 8 | 'e', 4), 4);
        due("the lowest bytes, highest first", x.feed('x' << 16 | ' ' << 8 | '7', 2), 6);
        due("no bytes", x.feed(5, 0), 6);
        due("n -1", x.feed(5, -1), -2);
        due("n 5", x.feed(5, 5), -2);
        due("house", x.house(), 0);
        for (int i = 1; i <= 24; i++) {
            due("feed", x.feed(-1, 4), i * 4);
        }
        due("up to 99", x.feed(0, 3), 99);
        due("beyond 100", x.feed(0, 2), -4);
        due("100", x.feed(0, 1), 100);
        due("full", x.feed(0, 1), -4);
        due("none at 100", x.feed(0, 0), 100);
        due("bad before full", x.feed(0, 9), -2);
        due("text", x.count(5), 100);
        due("a byte 255 begins no house", x.house(), -10);
        due("empty then", x.count(5), 0);
    }

    private static void house() {
        now = "promise 6";
        fault("", 0);
        fault("tak", 3);
        fault("x", 0);
        fault("g", 1);
        fault("gx", 1);
        fault("gl", 2);
        fault("glow", 2);
        fault("gia", 2);
        fault("give", 4);
        fault("give ", 5);
        fault("give  1", 5);
        fault("give 1234", 8);
        fault("give 1;", 7);
        fault("give 1;;", 7);
        fault("give 1 ", 6);
        fault("take 4 0 1", 5);
        fault("take 0 4 1", 7);
        fault("take 0 0", 8);
        fault("take 00 1", 6);
        fault("glad 0 0 x", 9);
        fault("bar e=1", 4);
        fault("bar a!1", 5);
        fault("bar a=", 6);
        fault("bar a=123", 8);
        fault("bar a=1&", 8);
        fault("bar a=1)", 7);
        fault("bar (a=1;give 1", 8);
        fault("bar (((((a=1)))))", 8);
        fault("bar !!!!!a=1", 8);
        fault("bar ((a=1", 9);
        fault("bar ()", 5);
        whole("give 0");
        whole("give 999;give 007");
        whole("bar ((((a=1))))");
        whole("bar !!!!d>99");
        whole("bar !(!(a=1))");
        fault("bar !(!((a=1)))", 8);
        fault("bar !(!(!a=1))", 8);
        whole("bar !(!(r<00))|!a=1&(b=1|(((c=2))))");
        whole("take 3 3 999;glad 3 3 0;bar a=0&b<1|c>2;give 1");
        manyHouses();
        manyClauses();
    }


    private static void manyHouses() {
        CellarMeter x = meter(0, 2);
        for (int i = 0; i < 6; i++) {
            due("a fault makes no house", house(x, "give"), -14);
            due("house", house(x, "take 0 1 " + i), i);
            due("the newest holds", x.of(0, 11), i);
        }
        due("full", house(x, "give 9"), -4);
        due("the text stays", x.count(5), 6);
        due("full for a fault too", house(x, "?"), -4);
        due("houses", x.count(4), 6);
        CellarMeter y = meter(0, 2);
        house(y, "take 0 1 5");
        due("a fault", house(y, "take 0 1 6;take 0 1"), -29);
        due("the one that held holds", y.of(0, 11), 5);
    }

    private static void manyClauses() {
        StringBuilder b = new StringBuilder("give 0");
        for (int i = 1; i < 12; i++) {
            b.append(";give ").append(i % 10);
        }
        whole(b.toString());
        fault(b + ";", b.length());
        fault(b + ";give 1", b.length());
        CellarMeter x = new CellarMeter();
        house(x, b.toString());
        readings(x, 0, 1);
        due("the last give", x.may(0), 1);
        readings(x, 0, 2);
        due("beyond the last give", x.may(0), 0);
    }

    /** How bars are told: & before |, ! before both, things that are not there, the place. */
    private static void bars() {
        now = "promise 6, bars";
        CellarMeter x = meter(0, 2, 0, 2);
        readings(x, 0, 0, 0);
        barred(x, "a=1|a=0&b=1", 0b1110);
        barred(x, "(a=1|a=0)&b=1", 0b1100);
        barred(x, "!a=1&b=1", 0b0100);
        barred(x, "!(a=1&b=1)", 0b0111);
        x = meter(0, 2, 0, 2);
        readings(x, 0, 0, 0);
        barred(x, "c=0&a>0", 0b1010);
        barred(x, "c>0|d<0|a<1", 0b0101);
        barred(x, "r=1", 0);
        due("r=1 at 1", x.may(1), 0);
        due("a state is never below 0", house(x, "bar a<0"), 3);
        due("so no way is barred", x.may(0), 4);
        due("nor ever not", house(x, "bar !a<0"), 4);
        due("so all are", x.may(0), 0);
        x = meter(0, 2, 0, 2);
        readings(x, 0, 0, 0);
        due("deep on the right", house(x, "bar a=1|(a=2|(a=3|(a=4|(b=0&a=0))))|!r=0"), 0);
        due("a in 0 and b in 1 is left", x.may(0), 1);
        due("a in 0 and b in 1 is left", x.fits(0, 2), 1);
        due("none is left", x.may(1), 0);
        due("two bars", house(x, "bar a=1;bar b=1"), 1);
        due("either bars", x.may(0), 1);
    }

    private static void barred(CellarMeter x, String bar, int ways) {
        due("house", house(x, "bar " + bar) >= 0 ? 1 : 0, 1);
        for (int w = 0; w < 4; w++) {
            due(bar + " in way " + w, x.fits(0, w), 1 - (ways >> w & 1));
        }
    }

    private static void reading() {
        now = "promise 7";
        CellarMeter x = new CellarMeter();
        due("meter 2", x.reading(2, -1), -1);
        due("meter -1", x.reading(-1, 5), -1);
        due("watts -1", x.reading(0, -1), -2);
        due("watts 10000", x.reading(1, 10000), -2);
        for (int i = 1; i <= 12; i++) {
            due("first", x.reading(0, 9999), i);
            due("second", x.reading(1, 0), i);
        }
        due("a thirteenth", x.reading(0, 0), -4);
        due("a thirteenth", x.reading(1, 0), -4);
        due("bad before full", x.reading(0, 10000), -2);
        due("counted", x.count(2) + x.count(3), 24);
    }

    private static void clear() {
        now = "promise 8";
        CellarMeter x = new CellarMeter();
        readings(x, 0, 1, 2, 3);
        readings(x, 1, 4, 5);
        due("meter 2", x.clear(2), -1);
        due("meter -1", x.clear(-1), -1);
        due("first", x.clear(0), 3);
        due("the second stays", x.count(3), 2);
        due("again", x.clear(0), 0);
        due("second", x.clear(1), 2);
    }

    private static void fits() {
        now = "promise 9";
        CellarMeter x = meter(0, 2, 5, 2);
        house(x, "take 0 1 5;take 1 0 1;take 1 1 10;give 2");
        readings(x, 0, 8, 17, 13);
        due("10 for 8", x.fits(0, 2), 1);
        due("15 for 8", x.fits(0, 3), 0);
        due("15 for 17", x.fits(1, 3), 1);
        due("10 for 13", x.fits(2, 2), 0);
        due("always in 0", x.fits(0, 0), 0);
        due("reading 3", x.fits(3, 0), -1);
        due("reading -1", x.fits(-1, 0), -1);
        due("way 4", x.fits(0, 4), -1);
        due("way -1", x.fits(0, -1), -1);
        x = meter(6, 2);
        readings(x, 0, 0);
        due("held in 0", x.fits(0, 0), 0);
        due("held in 1", x.fits(0, 1), 1);
        x = new CellarMeter();
        readings(x, 0, 0, 1);
        due("no things", x.fits(0, 0), 1);
        due("no things for 1", x.fits(1, 0), 0);
    }

    private static void tales() {
        now = "promise 10";
        CellarMeter x = meter(0, 4, 0, 4, 0, 4);
        readings(x, 0, new int[12]);
        due("64 to the 12th", x.tales(), 775605);
        x = meter(2, 3);
        readings(x, 0, 0, 0, 0);
        due("a round", x.tales(), 12);
        x = meter(1, 2, 5, 3, 6, 3);
        readings(x, 0, 0, 0);
        due("a switch, an always, a held", x.tales(), 4 * 4 * 2);
        house(x, "bar a=1&r=1");
        due("barred at 1", x.tales(), 2 * 4 * 2);
        house(x, "take 1 2 5");
        due("takes 0 of 0", x.tales(), 4 * 1 * 2);
        x = meter(1, 2);
        readings(x, 0, 3);
        due("none", x.tales(), 0);
    }

    private static void may() {
        now = "promise 11";
        CellarMeter x = meter(0, 4, 0, 4, 0, 4);
        readings(x, 0, 0, 5);
        due("all", x.may(0), 64);
        due("none", x.may(1), 0);
        house(x, "take 0 1 5;take 1 2 5;give 1");
        due("0", x.may(0), 36);
        due("5", x.may(1), 24);
        due("reading 2", x.may(2), -1);
        due("reading -1", x.may(-1), -1);
    }

    private static void fewest() {
        now = "promise 12";
        CellarMeter x = meter(0, 2, 0, 2);
        due("no readings", x.fewest(-1), 0);
        due("no reading 0", x.fewest(0), -1);
        house(x, "take 0 1 5;take 1 1 5");
        readings(x, 0, 5, 10, 5, 0, 5);
        row("two and two", 4, new int[] {1, 3, 1, 0, 1}, x);
        house(x, "take 0 1 5;take 1 1 5;bar a=1&r=4");
        row("the last one is barred", 4, new int[] {1, 3, 1, 0, 2}, x);
        house(x, "take 0 1 5;take 1 1 5;bar a=1&r=2");
        row("what follows decides", 4, new int[] {1, 3, 2, 0, 1}, x);
        house(x, "take 0 1 5;take 1 1 5;bar a=1&(r=2|r=0)");
        readings(x, 0, 5, 5, 5);
        row("no change pays", 0, new int[] {2, 2, 2}, x);
        house(x, "take 0 1 5;take 1 1 5;bar a=1");
        readings(x, 0, 0, 5, 0);
        row("off at first", 2, new int[] {0, 2, 0}, x);
        due("reading 3", x.fewest(3), -1);
        due("reading -2", x.fewest(-2), -1);
        readings(x, 0, 5, 6);
        due("no tale", x.fewest(-1), NO_TALE);
        due("no tale", x.fewest(1), NO_TALE);
        due("no reading before no tale", x.fewest(2), -1);
    }

    /** A way that fits, with no tale on from it, is no begin of a tale, however cheap it is. */
    private static void deadEnds() {
        now = "promises 12 to 17, dead ends";
        CellarMeter x = meter(2, 4);
        house(x, "bar a=3&r=0;bar (a=1|a=0)&r=2;bar !(a=0)&r=3;glad 0 0 50;take 0 0 0");
        readings(x, 0, 0, 0, 0, 0);
        int[] fewest = {2, 2, 3, 0};
        int[] gladdest = {1, 2, 3, 0};
        for (int r = 0; r < 4; r++) {
            due("fewest " + r, x.fewest(r), fewest[r]);
            due("gladdest " + r, x.gladdest(r), gladdest[r]);
        }
        due("ways", x.tales(), 3);
        due("sure 0", x.sure(0, 0), 1);
        due("on 3", x.sure(3, 1), 0);
        due("changes", x.fewest(-1), 2);
        due("glad", x.gladdest(-1), 50);
    }

    private static void row(String what, int changes, int[] ways, CellarMeter x) {
        due(what, x.fewest(-1), changes);
        for (int i = 0; i < ways.length; i++) {
            due(what + ", reading " + i, x.fewest(i), ways[i]);
        }
    }

    private static void gladdest() {
        now = "promise 13";
        CellarMeter x = meter(0, 2, 2, 3);
        due("no readings", x.gladdest(-1), 0);
        due("no reading 0", x.gladdest(0), -1);
        house(x, "take 0 1 5;take 1 1 5;take 1 2 5;glad 1 2 3;glad 0 1 2");
        readings(x, 0, 5, 5, 5);
        due("a round from 2 on", x.gladdest(-1), 9);
        due("2", x.gladdest(0), 4);
        due("2", x.gladdest(2), 4);
        house(x, "take 0 1 5;take 1 1 5;take 1 2 5;glad 1 2 3;bar b=2&r=0");
        due("1, 2, 2", x.gladdest(-1), 6);
        due("1", x.gladdest(0), 2);
        due("2", x.gladdest(1), 4);
        house(x, "take 0 1 5;take 1 1 5;take 1 2 5");
        due("none is gladder", x.gladdest(-1), 0);
        due("the first as a row", x.gladdest(0) * 100 + x.gladdest(1) * 10 + x.gladdest(2), 111);
        house(x, "glad 0 0 7;glad 1 0 2;glad 1 1 2;bar b=1&r=0;bar b=0&r=2");
        readings(x, 0, 0, 0, 0);
        due("off is glad", x.gladdest(-1), 27);
        due("off is glad at 0", x.gladdest(0), 0);
        due("a step on", x.gladdest(1), 0);
        due("a step on later", x.gladdest(2), 2);
        readings(x, 0, 5, 5, 5);
        house(x, "take 0 1 5;take 1 1 5;take 1 2 5");
        due("reading 3", x.gladdest(3), -1);
        due("reading -2", x.gladdest(-2), -1);
        readings(x, 0, 5, 6);
        due("no tale", x.gladdest(-1), NO_TALE);
        due("no tale", x.gladdest(0), NO_TALE);
        due("no reading before no tale", x.gladdest(2), -1);
    }

    private static void sure() {
        now = "promise 14";
        CellarMeter x = meter(0, 2, 0, 2, 6, 3);
        house(x, "take 0 1 5;take 1 1 5");
        readings(x, 0, 5, 10, 0);
        int[] sure = {4, 7, 4};
        int[] on = {7, 7, 4};
        for (int r = 0; r < 3; r++) {
            due("sure " + r, x.sure(r, 0), sure[r]);
            due("on " + r, x.sure(r, 1), on[r]);
        }
        due("reading 3", x.sure(3, 0), -1);
        due("reading -1", x.sure(-1, 0), -1);
        due("what 2", x.sure(0, 2), -1);
        due("what -1", x.sure(0, -1), -1);
        readings(x, 0, 5, 7);
        due("no tale", x.sure(0, 0), 0);
        due("no tale", x.sure(0, 1), 0);
        x = meter(2, 3);
        house(x, "take 0 1 5;take 0 2 5;bar a=0&r=2|a=1&r=2|a=2&r=0");
        readings(x, 0, 5, 5, 5);
        due("what comes later makes sure", x.sure(1, 0), 1);
    }

    private static void alike() {
        now = "promise 15";
        CellarMeter x = meter(1, 2, 1, 2, 1, 2, 4, 2);
        due("three switches", x.alike(), 3);
        house(x, "take 0 1 5;take 1 1 5");
        due("one takes less", x.alike(), 1);
        house(x, "take 0 0 5;glad 1 0 5");
        due("in state 0 too", x.alike(), 0);
        house(x, "glad 0 1 4;glad 2 1 4");
        due("as glad", x.alike(), 1);
        house(x, "bar b=1;bar r=0&!(d=3)");
        due("two stand in bars", x.alike(), 1);
        house(x, "bar a=7");
        due("one stands in a bar", x.alike(), 1);
        house(x, "bar d=7");
        due("one of another kind does", x.alike(), 3);
        house(x, "bar (r<3)");
        due("none does", x.alike(), 3);
        house(x, "take 0 2 5;take 0 3 5");
        due("states that are not", x.alike(), 3);
        due("none", meter(0, 2, 0, 3).alike(), 0);
        due("four", meter(6, 2, 6, 2, 6, 2, 6, 2).alike(), 6);
    }

    private static void secret() {
        now = "promise 16";
        CellarMeter x = meter(1, 2);
        due("no readings", x.secret(), 0);
        house(x, "take 0 1 10");
        readings(x, 0, 10, 0);
        due("a tale without", x.secret(), 0);
        readings(x, 0, 10, 17, 7, 0);
        due("seven", x.secret(), 7);
        readings(x, 0, 10, 17, 8);
        due("none", x.secret(), NO_TALE);
        house(x, "take 0 1 10;give 2");
        due("give or take", x.secret(), 5);
        house(x, "take 0 1 10;give 2;bar r>0");
        due("no bar is broken", x.secret(), NO_TALE);
        x = new CellarMeter();
        readings(x, 0, 99);
        due("99", x.secret(), 99);
        readings(x, 0, 100);
        due("100", x.secret(), NO_TALE);
        house(x, "give 1");
        due("100 less 1", x.secret(), 99);
        x = meter(6, 3);
        house(x, "take 0 1 5;take 0 2 9");
        readings(x, 0, 9, 12);
        due("held in 2", x.secret(), 3);
        readings(x, 0, 10);
        due("one", x.secret(), 1);
        x = meter(2, 3);
        house(x, "take 0 1 20;take 0 2 40");
        readings(x, 0, 0, 40);
        due("what does not follow makes no tale", x.secret(), 20);
    }

    private static void part() {
        now = "promise 17";
        CellarMeter x = meter(0, 2, 0, 2);
        house(x, "take 0 1 5;take 1 1 5");
        due("no readings", x.part(0, 1), 0);
        readings(x, 0, 5, 10, 5);
        due("least", x.part(0, 0), 5);
        due("most", x.part(0, 1), 15);
        house(x, "take 0 1 5;take 1 1 5;bar a=1&r=0");
        due("least", x.part(0, 0), 5);
        due("most", x.part(0, 1), 10);
        due("the other's least", x.part(1, 0), 10);
        due("thing 2", x.part(2, 0), -1);
        due("thing -1", x.part(-1, 0), -1);
        due("what 2", x.part(0, 2), -1);
        due("what -1", x.part(0, -1), -1);
        readings(x, 0, 5, 11);
        due("no tale", x.part(0, 0), NO_TALE);
        due("no tale", x.part(0, 1), NO_TALE);
        due("none before no tale", x.part(3, 1), -1);
    }

    private static void wires() {
        now = "promise 18";
        CellarMeter x = meter(0, 2, 0, 2);
        house(x, "take 0 1 5;take 1 1 5");
        due("no readings: all sets", x.wires(0), 4);
        due("no readings: none first", x.wires(1), 0);
        readings(x, 0, 5, 10);
        due("not as many", x.wires(0), -3);
        due("what 2", x.wires(2), -1);
        due("what -1", x.wires(-1), -1);
        readings(x, 1, 5, 5);
        due("either one", x.wires(0), 2);
        due("the first one", x.wires(1), 1);
        readings(x, 1, 0, 5);
        due("either one, off at first", x.wires(0), 2);
        readings(x, 1, 5, 10);
        due("both", x.wires(0), 1);
        due("both", x.wires(1), 3);
        readings(x, 1, 5, 6);
        due("none", x.wires(0), 0);
        due("none", x.wires(1), NO_TALE);
        house(x, "take 0 1 5;take 1 1 5;give 1");
        due("give or take", x.wires(0), 2);
        readings(x, 0, 5, 12);
        due("no tale", x.wires(0), 0);
        readings(x, 1, 5, 6, 7);
        due("too many", x.wires(0), -3);
        readings(x, 0, 5);
        readings(x, 1, 7);
        due("one reading that none gives", x.wires(0), 0);
        x = meter(6, 3, 0, 3);
        house(x, "take 0 1 5;take 0 2 7;take 1 1 7;take 1 2 5");
        readings(x, 0, 12, 12);
        readings(x, 1, 5, 7);
        due("what does not follow makes no tale", x.wires(0), 0);
        readings(x, 1, 7, 7);
        due("either one, in another tale", x.wires(0), 2);
    }

    private static void coarse() {
        now = "promise 19";
        CellarMeter x = meter(0, 2);
        house(x, "take 0 1 5");
        readings(x, 0, 5);
        due("six", x.coarse(0, 0), 6);
        readings(x, 0, 0);
        due("off is sure up to 5", x.coarse(0, 0), 6);
        house(x, "take 0 1 5;give 5");
        due("one", x.coarse(0, 0), 1);
        due("reading 1", x.coarse(1, 0), -1);
        due("reading -1", x.coarse(-1, 0), -1);
        due("thing 1", x.coarse(0, 1), -1);
        due("thing -1", x.coarse(0, -1), -1);
        house(x, "take 0 1 60");
        due("61 is too coarse", x.coarse(0, 0), NO_TALE);
        house(x, "take 0 1 59");
        due("60", x.coarse(0, 0), 60);
        x = meter(0, 3);
        house(x, "take 0 1 5;take 0 2 8;give 3");
        readings(x, 0, 5);
        due("on in two states", x.coarse(0, 0), 2);
        readings(x, 0, 5, 20);
        due("there has to be a tale", x.coarse(0, 0), 7);
        x = meter(6, 2);
        readings(x, 0, 0);
        due("never off", x.coarse(0, 0), NO_TALE);
    }

    private static void judge() {
        now = "promise 20";
        CellarMeter x = meter(2, 3);
        house(x, "take 0 1 5;take 0 2 5");
        due("no readings, nothing there", x.judge(0, 0), NO_TALE);
        x.tape(1, 2, 5);
        due("no row of bytes", x.judge(1, 0), CAST);
        readings(x, 0, 5, 5, 0, 5);
        due("tape 6", x.judge(6, 0), -1);
        due("tape -1", x.judge(-1, 0), -1);
        due("nothing there", x.judge(0, 0), 100);
        judged(x, 0, NO_TALE, 1, 2, 0, 1);
        judged(x, 0, NO_TALE, 1, 2, 0, 1, 99);
        judged(x, 2, NO_TALE, 7, 7, 2, 2, 0, 1);
        judged(x, 0, 1, 2, 1, 0, 1);
        judged(x, 0, 3, 1, 2, 0, 2);
        judged(x, 0, 0, 0, 2, 0, 1);
        judged(x, 0, 2, 1, 2, 2, 1);
        judged(x, 0, 0, 3, 0, 0, 0);
        judged(x, 0, 1, 1, -1, 0, 0);
        judged(x, 0, 1, 1, 66, 0, 0);
        judged(x, 0, 103, 1, 2, 0);
        judged(x, 1, 102, 1, 1, 2);
        judged(x, 0, 0, 0);
        judged(x, 1, 100, 1);
        judged(x, -1, 100, 1, 1, 2, 0);
        judged(x, Integer.MIN_VALUE, 100, 1);
        judged(x, Integer.MAX_VALUE, 100, 1);
    }

    private static void judged(CellarMeter x, int from, int want, int... row) {
        x.tape(0, 0, row.length);
        for (int i = 0; i < row.length; i++) {
            x.item(0, i, row[i]);
        }
        due("judge from " + from, x.judge(0, from), want);
    }

    private static void imageAndUndo() {
        now = "promises 21 and 22";
        CellarMeter x = new CellarMeter();
        due("no image", x.undo(), -3);
        due("image of nothing", x.image(), 0);
        x.thing(0, 2);
        house(x, "take 0 1 5");
        readings(x, 0, 5);
        due("undo", x.undo(), 0);
        due("things stay", x.count(0), 1);
        due("houses stay", x.count(4), 1);
        due("no house holds", x.of(0, 11), 0);
        house(x, "take 0 1 6");
        readings(x, 0, 6, 0);
        readings(x, 1, 1, 2, 3);
        x.feed('g', 1);
        due("image", x.image(), 2);
        x.feed('i', 1);
        due("the text stays", x.count(5), 2);
        x.house();
        house(x, "take 0 1 7");
        readings(x, 0, 7, 7, 7);
        x.clear(1);
        for (int i = 0; i < 2; i++) {
            due("undo", x.undo(), 2);
            due("first", x.count(2), 2);
            due("second", x.count(3), 3);
            due("house", x.of(0, 11), 6);
            due("readings", x.fits(0, 1) * 2 + x.fits(1, 0), 3);
            x.clear(0);
            x.reading(0, 9);
        }
        due("houses go on", house(x, "give 1"), 3);
    }

    private static void act() {
        now = "promise 23";
        CellarMeter x = meter(0, 2, 6, 3, 4, 4, 3, 2);
        due("thing takes", x.act(0, 0, 7), 7);
        due("thing follows", x.act(0, 1, 7), 5);
        due("thing tells", x.act(0, 2, 7), 10);
        due("held takes", x.act(1, 0, 7), 8 ^ 3);
        due("held follows", x.act(1, 1, 7), (8 ^ 3) - 3 + 3);
        due("held tells", x.act(1, 2, 7), ((7 ^ 3) - 3 + 3) * 2);
        due("steps takes", x.act(2, 0, 7), -9);
        due("steps follows", x.act(2, 1, 7), (-10 - 4) ^ 6);
        due("steps tells", x.act(2, 2, 7), ((-10 - 4) ^ 6) * 2);
        due("warm tells", x.act(3, 2, 7), (10 - 2) * 2 + 4 - 2);
        due("wraps", x.act(3, 0, Integer.MAX_VALUE), Integer.MIN_VALUE + 2);
        due("no thing", x.act(4, 0, 7), 0);
        due("thing -1", x.act(-1, 0, 7), 0);
        due("act 3", x.act(0, 3, 7), 0);
        due("act -1", x.act(0, -1, 7), 0);
        x = meter(2, 2, 1, 3, 5, 2);
        due("round takes", x.act(0, 0, 7), 21);
        due("round follows", x.act(0, 1, 1 << 30), (1 << 30) * 3 - 2);
        due("switch follows", x.act(1, 1, 7), (8 - 3) ^ 6);
        due("always tells", x.act(2, 2, 7), (7 - 2 + 2 - 2) * 2);
    }

    private static void trace() {
        now = "promise 24";
        CellarMeter x = meter(6, 2, 4, 2, 3, 2, 2, 2);
        due("before any act", x.trace(0), -1);
        x.act(0, 2, 5);
        traced(x, 60, 12, 70, 11, 71, 10, 10);
        x.act(1, 2, 5);
        traced(x, 12, 51, 20, 11, 50, 10);
        x.act(2, 2, 5);
        traced(x, 40, 12, 11, 10, 11, 10);
        x.act(3, 1, 5);
        traced(x, 11, 30, 10);
        x.act(3, 3, 5);
        traced(x);
        x.act(3, 1, 5);
        x.act(9, 0, 0);
        traced(x);
    }

    private static void traced(CellarMeter x, int... bodies) {
        due("bodies", x.count(6), bodies.length);
        for (int i = 0; i < bodies.length; i++) {
            due("body " + i, x.trace(i), bodies[i]);
        }
        due("beyond", x.trace(bodies.length), -1);
        due("below", x.trace(-1), -1);
    }

    private static void taken() {
        now = "promise 25";
        // A row for each kind of thing: the kinds that it may be taken for, as bits.
        int[] takenFor = {1, 3, 5, 9, 19, 33, 97};
        for (int kind = 0; kind < 7; kind++) {
            CellarMeter x = meter(kind, 2);
            for (int k = 0; k < 7; k++) {
                due(kind + " for " + k, x.taken(0, k), (takenFor[kind] >> k & 1) != 0 ? kind : CAST);
            }
            due("k 7", x.taken(0, 7), -2);
            due("k -1", x.taken(0, -1), -2);
            due("nothing", x.taken(1, 0), NOTHING);
            due("nothing", x.taken(-1, 0), NOTHING);
            due("k before nothing", x.taken(9, 9), -2);
        }
    }

    private static void count() {
        now = "promise 26";
        CellarMeter x = meter(0, 3, 6, 4);
        house(x, "give 3");
        readings(x, 0, 1, 2, 3);
        readings(x, 1, 1);
        x.feed(0, 2);
        x.act(1, 1, 0);
        int[] counts = {2, 12, 3, 1, 1, 2, 5};
        for (int i = 0; i < counts.length; i++) {
            due("count " + i, x.count(i), counts[i]);
        }
        due("what 7", x.count(7), -2);
        due("what -1", x.count(-1), -2);
    }

    private static void tape() {
        now = "promise 27";
        CellarMeter x = new CellarMeter();
        for (int sort = 0; sort < 5; sort++) {
            due("a row", x.tape(5, sort, 60), 1);
            due("all 0", x.read(5, 59), 0);
            due("its end", x.read(5, 60), Long.MIN_VALUE);
            x.item(5, 59, 1);
        }
        due("an empty row", x.tape(5, 0, 0), 1);
        due("is no nothing", x.item(5, 0, 0), PLACE);
        due("nothing", x.tape(5, -1, -99), 1);
        due("nothing", x.item(5, 0, 0), NOTHING);
        due("nothing, n above 60", x.tape(5, -1, 61), 1);
        due("tape 6", x.tape(6, 9, 99), -1);
        due("tape -1", x.tape(-1, 0, 1), -1);
        due("sort 5", x.tape(0, 5, -1), -2);
        due("sort -2", x.tape(0, -2, 1), -2);
        due("n 61", x.tape(0, 0, 61), -2);
        due("n -1", x.tape(0, 0, -1), SIZE);
        due("still nothing", x.item(0, 0, 0), NOTHING);
        x.tape(0, 2, 2);
        x.item(0, 1, 7);
        x.tape(0, 2, -1);
        due("a refusal changes nothing", x.read(0, 1), 7);
        x.item(0, 0, 7);
        x.tape(0, 2, 2);
        due("a new row is 0", x.read(0, 0) + x.read(0, 1), 0);
    }

    private static void itemAndRead() {
        now = "promises 28 and 29";
        CellarMeter x = new CellarMeter();
        long[] given = {200, 70002, 9999999998L, Long.MIN_VALUE, -1};
        long[][] kept = {
            {-56, 114, -2, 0, -1}, {200, 4466, -7170, 0, -1},
            {200, 70002, 1410065406, 0, -1}, given, {1, 1, 1, 1, 1}
        };
        for (int sort = 0; sort < 5; sort++) {
            x.tape(0, sort, 2);
            for (int i = 0; i < given.length; i++) {
                due("item", x.item(0, 1, given[i]), 1);
                due("sort " + sort + " of " + given[i], x.read(0, 1), kept[sort][i]);
            }
            x.item(0, 1, 0);
            due("0 again", x.read(0, 1), 0);
        }
        due("tape 6", x.item(6, 0, 0), -1);
        due("tape -1", x.item(-1, 0, 0), -1);
        due("nothing", x.item(1, -1, 0), NOTHING);
        due("place 2", x.item(0, 2, 0), PLACE);
        due("place -1", x.item(0, -1, 0), PLACE);
        due("read of tape 6", x.read(6, 0), Long.MIN_VALUE);
        due("read of tape -1", x.read(-1, 0), Long.MIN_VALUE);
        due("read of nothing", x.read(1, 0), Long.MIN_VALUE);
        due("read of place 2", x.read(0, 2), Long.MIN_VALUE);
        due("read of place -1", x.read(0, -1), Long.MIN_VALUE);
    }

    private static void shift() {
        now = "promise 30";
        CellarMeter x = new CellarMeter();
        x.tape(0, 1, 5);
        x.tape(1, 1, 3);
        x.tape(2, 2, 5);
        for (int i = 0; i < 5; i++) {
            x.item(0, i, i + 1);
        }
        due("to another", x.shift(0, 2, 1, 1, 2), 2);
        held(x, 1, 0, 3, 4);
        due("up the same", x.shift(0, 0, 0, 1, 4), 4);
        held(x, 0, 1, 1, 2, 3, 4);
        due("down the same", x.shift(0, 2, 0, 0, 3), 3);
        held(x, 0, 2, 3, 4, 3, 4);
        due("none at the ends", x.shift(0, 5, 1, 3, 0), 0);
        due("tape -1", x.shift(-1, 0, 0, 0, 1), -1);
        due("other 6", x.shift(3, 0, 6, 0, 1), -1);
        due("nothing", x.shift(3, -1, 0, 0, 1), NOTHING);
        due("other nothing", x.shift(2, 0, 3, 0, 1), NOTHING);
        due("unlike sorts", x.shift(0, -1, 2, 0, 1), CAST);
        due("n -1", x.shift(0, 0, 1, 0, -1), PLACE);
        due("i -1", x.shift(0, -1, 1, 0, 1), PLACE);
        due("j -1", x.shift(0, 0, 1, -1, 1), PLACE);
        due("beyond its end", x.shift(0, 4, 0, 0, 2), PLACE);
        due("beyond the other's end", x.shift(0, 0, 1, 2, 2), PLACE);
        due("from behind its end", x.shift(0, 6, 1, 0, 0), PLACE);
        due("to behind its end", x.shift(0, 0, 1, 4, 0), PLACE);
        due("great n", x.shift(0, 1, 1, 1, Integer.MAX_VALUE), PLACE);
        due("great i", x.shift(0, Integer.MAX_VALUE, 1, 1, 1), PLACE);
        due("great j", x.shift(0, 1, 1, Integer.MAX_VALUE, 1), PLACE);
        held(x, 0, 2, 3, 4, 3, 4);
        held(x, 1, 0, 3, 4);
    }

    private static void held(CellarMeter x, int tape, long... items) {
        for (int i = 0; i < items.length; i++) {
            due("tape " + tape + ", item " + i, x.read(tape, i), items[i]);
        }
    }
}
