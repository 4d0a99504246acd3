/** Promises 29 to 31: present, heard, hearers. */
public final class HearersTest {
    private static final int BAD = CriersOffice.BAD, FULL = CriersOffice.FULL;

    public static void main(String[] args) {
        presences();
        minutes();
        places();
        days();
        hearers();
        Check.end();
    }

    private static CriersOffice withNotice(int times, int... places) {
        CriersOffice x = Check.withSquares(places);
        Check.write(x, 0, "a");
        Check.due("notice", x.notice(0, 0, (1 << places.length / 2) - 1, times, 0), 0);
        Check.due("crier", x.crier(0), 0);
        return x;
    }

    private static void presences() {
        CriersOffice x = Check.withSquares(0, 0);
        int[][] bad = {{-1, 0, 0, 0}, {10, 0, 0, 0}, {0, -1, 0, 0}, {0, 1, 0, 0}, {0, 0, -1, 0}, {0, 0, 0, 1440},
            {0, 0, 1440, 1440}, {0, 0, 8, 7}};
        for (int[] b : bad) {
            Check.due("present bad", x.present(b[0], b[1], b[2], b[3]), BAD);
        }
        for (int i = 1; i <= 60; i++) {
            Check.due("present", x.present(i % 10, 0, 5, i == 1 ? 1439 : 5), i);
            if (i == 30) {
                x.later(1);
            }
        }
        Check.due("present 61st", x.present(0, 0, 0, 0), FULL);
        Check.due("present 61st, bad", x.present(0, 0, 1, 0), BAD);
    }

    private static void minutes() {
        CriersOffice x = withNotice(1, 0, 0);
        x.present(0, 0, 50, 60);
        x.present(1, 0, 60, 70);
        x.present(2, 0, 50, 59);
        x.present(3, 0, 61, 70);
        x.present(4, 0, 60, 60);
        x.present(5, 0, 0, 60);
        x.present(5, 0, 60, 61);
        Check.due("cry", x.cry(0, 0, 0, 60), 1);
        x.present(6, 0, 0, 1439);
        Check.due("cry that does not count", x.cry(0, 0, 0, 65), 0);
        int[] due = {1, 1, 0, 0, 1, 1, 1, 0};
        for (int p = 0; p < due.length; p++) {
            Check.due("heard(" + p + ", 0)", x.heard(p, 0), due[p]);
        }
        Check.due("heard bad", x.heard(-1, 0), BAD);
        Check.due("heard bad", x.heard(10, 0), BAD);
        Check.due("heard bad", x.heard(0, 1), BAD);
        Check.due("heard bad", x.heard(0, -1), BAD);
    }

    private static void places() {
        CriersOffice x = withNotice(1, 0, 0, 2, 3, 3, 3);
        x.present(0, 1, 0, 100);
        x.present(1, 2, 0, 100);
        x.cry(0, 0, 0, 60);
        Check.due("5 away", x.heard(0, 0), 1);
        Check.due("6 away", x.heard(1, 0), 0);
        x.back(0);
        Check.due("when it is taken back, too", x.heard(0, 0), 1);
        x.later(1);
        x.hearing(6);
        Check.due("6 away by 6", x.heard(1, 0), 1);
        x.hearing(4);
        Check.due("5 away by 4", x.heard(0, 0), 0);
    }

    private static void days() {
        CriersOffice x = withNotice(9, 0, 0);
        x.present(0, 0, 0, 1439);
        x.later(1);
        x.cry(0, 0, 0, 60);
        Check.due("of another day", x.heard(0, 0), 0);
        x.present(0, 0, 0, 1439);
        Check.due("of today", x.heard(0, 0), 1);
    }

    private static void hearers() {
        CriersOffice x = withNotice(9, 0, 0);
        x.notice(0, 0, 1, 1, 0);
        for (int day = 1; day <= 9; day++) {
            x.cry(0, 0, 0, 60);
            x.present(9, 0, 0, 100);
            if (day % 2 == 0) {
                x.present(3, 0, 60, 60);
            }
            x.later(1);
        }
        int[] due = {520, 520, 520, 520, 512, 512, 512, 512, 512};
        for (int n = 1; n <= 9; n++) {
            Check.due("hearers(0, " + n + ")", x.hearers(0, n), due[n - 1]);
        }
        Check.due("hearers of the other one", x.hearers(1, 1), 0);
        Check.due("hearers bad", x.hearers(0, 0), BAD);
        Check.due("hearers bad", x.hearers(0, 10), BAD);
        Check.due("hearers bad", x.hearers(2, 1), BAD);
        Check.due("hearers bad", x.hearers(-1, 1), BAD);
    }
}
