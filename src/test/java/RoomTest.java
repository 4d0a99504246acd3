import com.sun.management.ThreadMXBean;
import java.lang.management.ManagementFactory;

/** All calls of one run live in one room, so the dearest run of 512 calls makes little; asking makes nothing. */
public final class RoomTest {
    private static final ThreadMXBean THREADS = (ThreadMXBean) ManagementFactory.getThreadMXBean();
    private static final int CALLS = 512, MOST_BYTES = 200_000;

    public static void main(String[] args) {
        dearest();
        long bytes = dearest();
        Check.holds("the dearest run makes " + bytes + " bytes", bytes < MOST_BYTES);
        asking();
        Check.end();
    }

    private static long made() {
        return THREADS.getThreadAllocatedBytes(Thread.currentThread().getId());
    }

    /** A ROUND behind each new SQUARE measures anew; then NOTICES, MOVES, and CRIES to the end. The first loads classes. */
    private static long dearest() {
        long before = made();
        CriersOffice x = new CriersOffice();
        x.square(0, 0, 127);
        x.crier(0);
        x.round(0, 1);
        int calls = 3;
        for (int s = 1; s < 10; s++, calls += 2) {
            x.square(60 * (s % 2), 6 * s, 127);
            x.round(0, (2 << s) - 1);
        }
        x.sheet(0, 80);
        x.lay(0, 0, 'a');
        calls += 2;
        for (int i = 0; i < 40; i++, calls += 2) {
            x.notice(i % 6, 0, 1023, 9, 65535);
            x.move(i % 10, i, i + 1, 0);
        }
        for (int m = 0; calls < CALLS; calls++, m++) {
            x.cry(m % 40, 0, 0, m);
        }
        Check.due("squares", x.count(0), 10);
        Check.due("notices", x.count(2), 40);
        Check.due("moves", x.count(5), 40);
        Check.holds("most of the cries are made", x.count(3) > 300);
        return made() - before;
    }

    private static void asking() {
        CriersOffice x = Check.withSquares(0, 0, 5, 0, 9, 9);
        x.crier(0);
        Check.write(x, 0, "lost a cow");
        x.notice(4, 0, 7, 2, 3);
        x.notice(5, 0, 7, 2, 1);
        x.present(0, 0, 0, 1439);
        x.cry(0, 0, 0, 9);
        x.round(0, 7);
        long first = ask(x);
        long latest = 0;
        long before = made();
        for (int i = 0; i < 20; i++) {
            latest = ask(x);
        }
        long bytes = made() - before;
        Check.holds("asking makes " + bytes + " bytes", bytes < 1000);
        Check.due("asked alike", latest, first);
    }

    private static long ask(CriersOffice x) {
        long sum = x.walk(0, 1) + x.market(0, 3, 4) + x.words(0) + x.bar(1) + x.barred(0) + x.told(0, 6);
        sum += x.mark(1, 5) + x.fee(0) + x.mean() + x.ready(0, 1) + x.counted(0, 0) + x.cryTold(0, 5);
        sum += x.due(0) + x.dueAt(1, 0) + x.heard(0, 0) + x.hearers(0, 1) + x.round(0, 7) + x.roundAt(1);
        return sum + x.joined(0, 1, 0) + x.count(2) + x.finding() + (x.digest() == 0 ? 1 : 0);
    }
}
