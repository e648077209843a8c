import java.lang.management.ManagementFactory;

/** What a run makes is counted: calls make nothing but things, and an object is small. */
public final class RoomTest {
    private static final int CALLS = 500;
    private static final long ROOM_OF_AN_OBJECT = 30000;
    private static final com.sun.management.ThreadMXBean BEAN =
        (com.sun.management.ThreadMXBean) ManagementFactory.getThreadMXBean();
    private static final long ME = Thread.currentThread().getId();

    public static void main(String[] args) {
        run();
        long start = BEAN.getThreadAllocatedBytes(ME);
        CellarMeter x = new CellarMeter();
        long object = BEAN.getThreadAllocatedBytes(ME) - start;
        fill(x);
        start = BEAN.getThreadAllocatedBytes(ME);
        ask(x);
        long calls = BEAN.getThreadAllocatedBytes(ME) - start;
        System.out.println("an object: " + object + " bytes, " + CALLS + " calls of each question: " + calls + " bytes");
        if (object > ROOM_OF_AN_OBJECT || calls > 2000) {
            System.exit(1);
        }
    }

    private static void run() {
        CellarMeter x = new CellarMeter();
        fill(x);
        ask(x);
    }

    private static void fill(CellarMeter x) {
        for (int i = 0; i < 3; i++) {
            x.thing(0, 4);
        }
        String text = "take 0 1 5;take 1 2 7;take 2 3 9;glad 0 1 3;bar (a=1&b=2)|!(c<3)&r>3;give 1";
        for (int i = 0; i < text.length(); i++) {
            x.feed(text.charAt(i), 1);
        }
        x.house();
        for (int i = 0; i < 12; i++) {
            x.reading(0, i % 5 * 5);
            x.reading(1, i % 5);
        }
        x.tape(0, 0, 60);
        x.tape(1, 0, 60);
        x.image();
    }

    private static long ask(CellarMeter x) {
        long sum = 0;
        for (int i = 0; i < CALLS; i++) {
            sum += x.tales() + x.may(3) + x.fewest(-1) + x.gladdest(3) + x.sure(3, 0) + x.alike() + x.secret();
            sum += x.part(0, 1) + x.wires(0) + x.coarse(3, 0) + x.judge(0, 0) + x.image() + x.undo() + x.act(0, 2, 5);
            sum += x.trace(0) + x.taken(0, 0) + x.count(6) + x.tape(1, 0, 60) + x.item(0, 1, 5) + x.read(0, 1);
            sum += x.shift(0, 0, 1, 1, 50) + x.fits(0, 0) + x.feed(7, 1) + x.house() + x.of(0, 11) + x.follows(0, 1, 1);
        }
        return sum;
    }
}
