/** Promises 22 to 28: crier, ready, cry, counted, cryTold, due, dueAt. */
public final class CriesTest {
    private static final int BAD = CriersOffice.BAD, FULL = CriersOffice.FULL, STATE = CriersOffice.STATE,
        BARRED = CriersOffice.BARRED, NONE = CriersOffice.NONE;

    public static void main(String[] args) {
        criers();
        walking();
        lengths();
        drowned();
        counting();
        countingLaws();
        doneAndTakenBack();
        criesBad();
        criesFull();
        cryTold();
        due();
        Check.end();
    }

    private static void criers() {
        CriersOffice x = Check.withSquares(0, 0, 3, 4);
        Check.due("crier bad", x.crier(-1), BAD);
        Check.due("crier bad", x.crier(2), BAD);
        for (int i = 0; i < 6; i++) {
            Check.due("crier", x.crier(i % 2), i);
        }
        Check.due("crier 7th", x.crier(0), FULL);
        Check.due("crier 7th, bad", x.crier(2), BAD);
        Check.due("ready", x.ready(0, 1), 7);
        Check.due("ready", x.ready(1, 1), 0);
        Check.due("ready bad", x.ready(6, 0), BAD);
        Check.due("ready bad", x.ready(-1, 0), BAD);
        Check.due("ready bad", x.ready(0, 2), BAD);
        Check.due("ready bad", x.ready(0, -1), BAD);
    }

    private static void walking() {
        CriersOffice x = Check.withSquares(0, 0, 10, 10);
        Check.write(x, 0, "a");
        x.notice(0, 0, 3, 9, 0);
        x.crier(0);
        Check.due("too soon", x.cry(0, 0, 1, 19), STATE);
        Check.due("just there", x.cry(0, 0, 1, 20), 1);
        Check.due("free behind the cry", x.ready(0, 1), 21);
        Check.due("still crying", x.cry(0, 0, 1, 20), STATE);
        Check.due("walks back", x.ready(0, 0), 41);
        Check.due("too soon", x.cry(0, 0, 0, 40), STATE);
        Check.due("back", x.cry(0, 0, 0, 41), 1);
        x.later(1);
        Check.due("free from 0 on the next day, where it was", x.ready(0, 0), 0);
        Check.due("and walks from there", x.ready(0, 1), 20);
        Check.due("the last minute", x.cry(0, 0, 1, 1439), 1);
        Check.due("beyond the day", x.ready(0, 0), 1460);
        Check.due("not any more today", x.cry(0, 0, 1, 1439), STATE);
    }

    private static void lengths() {
        int[] words = {1, 9, 10, 11, 20, 21, 40};
        for (int w : words) {
            CriersOffice x = Check.withSquares(0, 0);
            Check.write(x, 0, "a ".repeat(w));
            x.notice(0, 0, 1, 1, 0);
            x.crier(0);
            x.cry(0, 0, 0, 7);
            Check.due("free behind " + w + " words", x.ready(0, 0), 7 + (w + 9) / 10);
        }
    }

    private static void drowned() {
        CriersOffice x = Check.withSquares(0, 0, 5, 0, 0, 6);
        Check.write(x, 0, "a");
        x.notice(0, 0, 7, 9, 0);
        x.crier(0);
        x.crier(1);
        x.crier(2);
        x.crier(0);
        Check.due("cry", x.cry(0, 0, 0, 100), 1);
        Check.due("4 minutes ahead, 5 away", x.cry(0, 1, 1, 96), BARRED);
        Check.due("4 minutes behind", x.cry(0, 1, 1, 104), BARRED);
        Check.due("at the same place", x.cry(0, 3, 0, 102), BARRED);
        Check.due("6 away is not in hearing", x.cry(0, 2, 2, 100), 1);
        Check.due("state ahead of barred", x.cry(0, 3, 1, 4), STATE);
        Check.due("5 minutes ahead", x.cry(0, 1, 1, 95), 1);
        Check.due("5 minutes behind", x.cry(0, 3, 0, 105), 0);
        Check.due("the same crier is not drowned by itself", x.cry(0, 3, 0, 106), 0);
        Check.due("a cry that did not count drowns, too", x.cry(0, 0, 0, 110), BARRED);
        x.later(1);
        Check.due("not by cries of another day", x.cry(0, 3, 0, 100), 1);
        x.later(1);
        x.hearing(4);
        Check.due("cry", x.cry(0, 0, 0, 100), 1);
        Check.due("5 away is not in hearing by 4", x.cry(0, 1, 1, 100), 1);
    }

    private static void counting() {
        CriersOffice x = Check.withSquares(0, 0, 0, 1);
        Check.write(x, 0, "a");
        x.notice(3, 0, 1, 2, 0);
        x.crier(0);
        Check.due("elsewhere", x.cry(0, 0, 1, 10), 0);
        Check.due("first", x.cry(0, 0, 0, 20), 1);
        Check.due("twice a day", x.cry(0, 0, 0, 30), 0);
        Check.due("counted", x.counted(0, 0), 1);
        Check.due("counted elsewhere", x.counted(0, 1), 0);
        x.later(1);
        Check.due("second", x.cry(0, 0, 0, 30), 1);
        Check.due("done", x.told(0, 6), 1);
        x.later(1);
        Check.due("more than its times", x.cry(0, 0, 0, 30), 0);
        Check.due("counted", x.counted(0, 0), 2);
        Check.due("counted bad", x.counted(1, 0), BAD);
        Check.due("counted bad", x.counted(-1, 0), BAD);
        Check.due("counted bad", x.counted(0, 2), BAD);
        Check.due("counted bad", x.counted(0, -1), BAD);
    }

    private static void countingLaws() {
        for (int kind = 0; kind <= 5; kind++) {
            boolean law = kind == 1 || kind == 2;
            CriersOffice x = new CriersOffice();
            x.square(0, 0, 2);
            Check.write(x, 0, "a");
            x.notice(kind, 0, 1, 9, 0);
            x.crier(0);
            Check.due("no market, kind " + kind, x.cry(0, 0, 0, 0), law ? 0 : 1);
            x.later(1);
            Check.due("market", x.cry(0, 0, 0, 0), 1);
            x.move(0, 8, 9, 8);
            x.move(0, 15, 16, 16);
            x.later(7);
            Check.due("moved away", x.cry(0, 0, 0, 0), law ? 0 : 1);
            x.later(1);
            Check.due("moved to", x.cry(0, 0, 0, 0), 1);
            x.later(6);
            Check.due("moved away, not known yet", x.cry(0, 0, 0, 0), 1);
            Check.due("done thrice, of the law", x.told(0, 6), law ? 1 : 0);
        }
    }

    private static void doneAndTakenBack() {
        CriersOffice x = Check.withSquares(0, 0, 1, 0);
        Check.write(x, 0, "a");
        x.notice(0, 0, 3, 1, 0);
        x.notice(0, 0, 3, 1, 0);
        x.crier(0);
        Check.due("cry", x.cry(0, 0, 0, 0), 1);
        Check.due("not done", x.told(0, 6), 0);
        Check.due("cry", x.cry(0, 0, 1, 5), 1);
        Check.due("done", x.told(0, 6), 1);
        Check.due("cry", x.cry(1, 0, 1, 10), 1);
        x.back(1);
        Check.due("taken back", x.cry(1, 0, 0, 20), 0);
        Check.due("what counted stays counted", x.counted(1, 1), 1);
        Check.due("what counted stays counted", x.cryTold(2, 5), 1);
    }

    private static void criesBad() {
        CriersOffice x = Check.withSquares(0, 0);
        Check.write(x, 0, "a");
        x.notice(0, 0, 1, 1, 0);
        x.crier(0);
        int[][] bad = {{-1, 0, 0, 0}, {1, 0, 0, 0}, {0, -1, 0, 0}, {0, 1, 0, 0}, {0, 0, -1, 0}, {0, 0, 1, 0},
            {0, 0, 0, -1}, {0, 0, 0, 1440}, {0, 0, 0, Integer.MIN_VALUE}};
        for (int[] b : bad) {
            Check.due("cry bad", x.cry(b[0], b[1], b[2], b[3]), BAD);
        }
        Check.due("cries", x.count(3), 0);
    }

    private static void criesFull() {
        CriersOffice x = Check.withSquares(0, 0);
        Check.write(x, 0, "a");
        x.notice(0, 0, 1, 1, 0);
        x.crier(0);
        for (int i = 0; i < 400; i++) {
            Check.due("cry", x.cry(0, 0, 0, i), i == 0 ? 1 : 0);
        }
        Check.due("cry 401st", x.cry(0, 0, 0, 400), FULL);
        Check.due("full ahead of state", x.cry(0, 0, 0, 0), FULL);
        Check.due("bad ahead of full", x.cry(0, 0, 0, 1440), BAD);
        Check.due("cries", x.count(3), 400);
        Check.due("free as it was", x.ready(0, 0), 400);
    }

    private static void cryTold() {
        CriersOffice x = Check.withSquares(0, 0, 1, 0);
        Check.write(x, 0, "a");
        x.notice(0, 0, 1, 1, 0);
        x.notice(0, 0, 2, 1, 0);
        x.crier(0);
        x.crier(0);
        x.later(3);
        x.cry(1, 1, 1, 77);
        x.cry(1, 1, 0, 99);
        int[][] due = {{1, 1, 1, 3, 77, 1}, {1, 1, 0, 3, 99, 0}};
        for (int i = 0; i < 2; i++) {
            for (int what = 0; what <= 5; what++) {
                Check.due("cryTold(" + i + ", " + what + ")", x.cryTold(i, what), due[i][what]);
            }
        }
        Check.due("cryTold none", x.cryTold(2, 0), NONE);
        Check.due("cryTold none", x.cryTold(-1, 0), NONE);
        Check.due("cryTold bad", x.cryTold(0, 6), BAD);
        Check.due("cryTold bad", x.cryTold(0, -1), BAD);
        Check.due("cryTold bad of none", x.cryTold(2, 6), BAD);
    }

    private static void due() {
        CriersOffice x = new CriersOffice();
        x.square(0, 0, 2);
        x.square(9, 0, 2);
        Check.write(x, 0, "a");
        x.notice(0, 0, 1, 1, 0);
        x.notice(1, 0, 1, 1, 0);
        x.notice(0, 0, 2, 1, 0);
        x.notice(0, 0, 3, 2, 0);
        x.crier(0);
        duesAre(x, 0, 0, 3);
        duesAre(x, 1, 2, 3);
        x.cry(3, 0, 0, 0);
        duesAre(x, 0, 0);
        duesAre(x, 1, 2, 3);
        x.later(1);
        duesAre(x, 0, 0, 1, 3);
        x.cry(0, 0, 0, 0);
        x.back(3);
        duesAre(x, 0, 1);
        duesAre(x, 1, 2);
        Check.due("due bad", x.due(2), BAD);
        Check.due("due bad", x.due(-1), BAD);
        Check.due("dueAt bad", x.dueAt(2, 0), BAD);
        Check.due("dueAt bad", x.dueAt(-1, 0), BAD);
    }

    private static void duesAre(CriersOffice x, int square, int... notices) {
        Check.due("due(" + square + ")", x.due(square), notices.length);
        for (int i = 0; i < notices.length; i++) {
            Check.due("dueAt(" + square + ", " + i + ")", x.dueAt(square, i), notices[i]);
        }
        Check.due("dueAt behind", x.dueAt(square, notices.length), NONE);
        Check.due("dueAt ahead", x.dueAt(square, -1), NONE);
    }
}
