import com.sun.management.ThreadMXBean;
import java.lang.management.ManagementFactory;

/** All calls of a run live in one room: what a full object keeps is small, and asking it makes nothing. */
public final class RoomTest {
    private static final int CALLS = 400;
    /** What the machine itself may make on the way, such as loading a class. */
    private static final long SLACK = 100_000;

    private static final Checks CHECKS = new Checks();
    private static final ThreadMXBean THREADS = (ThreadMXBean) ManagementFactory.getThreadMXBean();

    public static void main(String[] args) {
        long atFirst = bytesMade();
        TallyWax bank = fullBank();
        below("a full object", SLACK, bytesMade() - atFirst);
        bank.digest();
        long before = bytesMade();
        for (int i = 0; i < CALLS; i++) {
            bank.digest();
        }
        below("asking a full object for its digest", SLACK, bytesMade() - before);
        CHECKS.close("RoomTest");
    }

    private static long bytesMade() {
        return THREADS.getThreadAllocatedBytes(Thread.currentThread().getId());
    }

    private static TallyWax fullBank() {
        TallyWax bank = new TallyWax();
        for (int tablet = 0; tablet < 8; tablet++) {
            bank.addTablet(9);
            for (int line = 0; line < 12; line++) {
                bank.write(tablet, line % 8, (line + 1 + tablet % 5) % 8, 50 + line * tablet, (line + 7) % 8);
            }
        }
        return bank;
    }

    private static void below(String what, long most, long made) {
        CHECKS.equal(what + " made " + made + " bytes, fewer than " + most, true, made < most);
    }
}
