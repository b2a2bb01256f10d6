import java.lang.management.ManagementFactory;

/** All calls of a run live in one room: the dearest calls make nothing new, and laws little. */
public final class RoomTest {
    private static final com.sun.management.ThreadMXBean THREADS = (com.sun.management.ThreadMXBean) ManagementFactory.getThreadMXBean();

    public static void main(String[] args) {
        Checks checks = new Checks();
        checks.about("room");
        measure(checks);
        checks.close();
    }

    private static long made() {
        return THREADS.getThreadAllocatedBytes(Thread.currentThread().getId());
    }

    private static void measure(Checks checks) {
        String law = "worth " + "1+".repeat(47) + "1;shuns if knows > 90";
        byte[] text = Checks.bytesOf(law);
        DeadLetters x = new DeadLetters();
        long before = made();
        x = new DeadLetters();
        limit(checks, "an object", made() - before, 50000);
        for (int i = 0; i < 8; i++) {
            x.letter(1 << i, 255, 1);
        }
        for (int i = 0; i < 6; i++) {
            x.child(8);
        }
        Checks.put(x, text);
        x.law();
        x.force(0);
        x.image(0);
        int[] five = Checks.fiveNumbers(text, 0);
        for (int round = 0; round < 2; round++) {
            before = made();
            for (int i = 0; i < 100; i++) {
                dearCalls(x, five);
            }
        }
        limit(checks, "dear calls", made() - before, 20000);
        before = made();
        for (int i = 0; i < 100; i++) {
            Checks.put(x, text);
            x.law();
            x.back(0);
        }
        limit(checks, "laws", (made() - before) / 100, 8000);
    }

    private static void limit(Checks checks, String what, long bytes, long most) {
        checks.so(what + " take " + bytes + " bytes", bytes <= most);
    }

    private static void dearCalls(DeadLetters x, int[] five) {
        x.lesson(0, 0, 7);
        x.heard(0, -1);
        x.ask(0, 0);
        x.matched(0);
        x.schools(5, 60);
        x.compare(0);
        x.few(20, 99);
        x.later(0, 60);
        x.together(0, 0);
        x.image(1);
        x.back(1);
        x.read(0, 0);
        x.undo();
        for (int i = 0; i < 20; i++) {
            x.feed(five[0], five[1], five[2], five[3], five[4]);
        }
        x.orders();
    }
}
