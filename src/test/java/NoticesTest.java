/** Promises 15 to 21: rate, notice, told, mark, fee, mean, back. */
public final class NoticesTest {
    private static final int BAD = CriersOffice.BAD, FULL = CriersOffice.FULL, STATE = CriersOffice.STATE,
        BARRED = CriersOffice.BARRED;
    private static final int NOTHING = 1, UNLIKE = 3, NOUGHT = 4, SIZE = 5;

    public static void main(String[] args) {
        rates();
        noticesBad();
        noticesRefusedInOrder();
        noticesFull();
        told();
        marks();
        marksOfLaw();
        marksOfFound();
        fees();
        backs();
        Check.end();
    }

    private static void rates() {
        CriersOffice x = new CriersOffice();
        Check.due("rate bad", x.rate(-1, 0), BAD);
        Check.due("rate bad", x.rate(6, 0), BAD);
        Check.due("rate bad", x.rate(0, -1), BAD);
        Check.due("rate bad", x.rate(0, 1001), BAD);
        for (int kind = 0; kind <= 5; kind++) {
            Check.due("rate", x.rate(kind, 1000 - kind), 1);
        }
        for (int kind = 0; kind <= 5; kind++) {
            Check.due("rate", x.rate(kind, 0), 1000 - kind);
        }
    }

    private static void noticesBad() {
        CriersOffice x = Check.withSquares(0, 0, 9, 9);
        Check.write(x, 0, "a b");
        int[][] bad = {{-1, 0, 1, 1, 0}, {6, 0, 1, 1, 0}, {0, -1, 1, 1, 0}, {0, 4, 1, 1, 0}, {0, 0, 0, 1, 0},
            {0, 0, -1, 1, 0}, {0, 0, 4, 1, 0}, {0, 0, Integer.MIN_VALUE, 1, 0}, {0, 0, 1, 0, 0}, {0, 0, 1, 10, 0},
            {1, 0, 1, 0, 0}, {2, 0, 1, 10, 0}, {4, 0, 1, 1, -1}, {4, 0, 1, 1, 65536}, {0, 0, 1, 1, 65536}};
        for (int[] b : bad) {
            Check.due("notice bad", x.notice(b[0], b[1], b[2], b[3], b[4]), BAD);
        }
        Check.due("none taken", x.count(2), 0);
        Check.due("no finding", x.finding(), 0);
        Check.due("notice", x.notice(5, 0, 3, 9, 65535), 0);
    }

    private static void noticesRefusedInOrder() {
        CriersOffice x = Check.withSquares(0, 0);
        Check.write(x, 0, "gin");
        x.bar(0);
        x.sheet(1, 3);
        Check.due("barred", x.notice(0, 0, 1, 1, 0), BARRED);
        Check.found(x, "no words", x.notice(0, 1, 1, 1, 0), SIZE, 1);
        Check.found(x, "no sheet", x.notice(0, 2, 1, 1, 0), NOTHING, 1);
        Check.due("bad ahead of no sheet", x.notice(0, 2, 1, 0, 0), BAD);
        Check.write(x, 2, "no Gin here");
        Check.due("barred within", x.notice(0, 2, 1, 1, 0), BARRED);
        Check.due("none taken", x.count(2), 0);
    }

    private static void noticesFull() {
        CriersOffice x = Check.withSquares(0, 0);
        Check.write(x, 0, "a");
        for (int i = 0; i < 40; i++) {
            Check.due("notice", x.notice(0, 0, 1, 1, 0), i);
        }
        x.bar(0);
        Check.due("full ahead of barred", x.notice(0, 0, 1, 1, 0), FULL);
        Check.due("full ahead of nothing", x.notice(0, 1, 1, 1, 0), FULL);
        Check.due("bad ahead of full", x.notice(0, 0, 2, 1, 0), BAD);
        Check.due("no finding", x.finding(), 0);
    }

    private static void told() {
        CriersOffice x = Check.withSquares(0, 0, 9, 9, 30, 30);
        Check.write(x, 0, "one two 1234567");
        x.later(12);
        Check.due("notice", x.notice(3, 0, 5, 2, 0), 0);
        x.sheet(0, 1);
        x.later(1);
        x.tear(0);
        tellsAll(x, 0, 3, 5, 5, 2, 12, 0, 0);
        Check.write(x, 0, "x");
        x.notice(1, 0, 7, 9, 0);
        x.notice(2, 0, 1, 1, 0);
        x.notice(0, 0, 1, 9, 0);
        tellsAll(x, 1, 1, 1, 7, 3, 13, 0, 0);
        tellsAll(x, 2, 2, 1, 1, 3, 13, 0, 0);
        tellsAll(x, 3, 0, 1, 1, 9, 13, 0, 0);
        x.back(2);
        tellsAll(x, 2, 2, 1, 1, 3, 13, 1, 0);
        Check.due("told bad", x.told(0, -1), BAD);
        Check.due("told bad", x.told(0, 7), BAD);
        Check.due("told bad", x.told(4, 0), BAD);
        Check.due("told bad", x.told(-1, 0), BAD);
    }

    private static void tellsAll(CriersOffice x, int notice, int... due) {
        for (int what = 0; what < due.length; what++) {
            Check.due("told(" + notice + ", " + what + ")", x.told(notice, what), due[what]);
        }
    }

    private static void marks() {
        CriersOffice x = Check.withSquares(0, 0);
        Check.write(x, 0, "a b c");
        for (int kind = 0; kind <= 5; kind++) {
            Check.due("notice", x.notice(kind, 0, 1, 2, 40 + kind), kind);
        }
        boolean[][] is = new boolean[6][6];
        is[1][1] = true;
        is[2][1] = true;
        is[2][2] = true;
        is[3][3] = true;
        is[4][4] = true;
        is[5][4] = true;
        is[5][5] = true;
        int unlike = 0;
        for (int n = 0; n <= 5; n++) {
            Check.due("mark by kind 0", x.mark(n, 0), BAD);
            Check.due("mark by kind -1", x.mark(n, -1), BAD);
            Check.due("mark by kind 6", x.mark(n, 6), BAD);
            for (int kind = 1; kind <= 5; kind++) {
                int got = x.mark(n, kind);
                if (!is[n][kind]) {
                    unlike++;
                    Check.found(x, "mark(" + n + ", " + kind + ")", got, UNLIKE, unlike);
                } else {
                    Check.holds("mark(" + n + ", " + kind + ") is told", got >= 0);
                }
            }
        }
        Check.due("a sale's fee", x.mark(3, 3), 6);
        Check.due("a lost one's marks", x.mark(4, 4), 44);
        Check.due("a found one's marks", x.mark(5, 4), 45);
        Check.due("mark of none", x.mark(6, 1), BAD);
        Check.due("mark of none", x.mark(-1, 1), BAD);
    }

    private static void marksOfLaw() {
        CriersOffice x = Check.withSquares(0, 0, 20, 0, 40, 0);
        Check.write(x, 0, "law");
        x.notice(2, 0, 6, 1, 0);
        x.crier(0);
        Check.due("a cry elsewhere", x.cry(0, 0, 0, 0), 0);
        for (int day = 0; day < 3; day++) {
            Check.due("lacks at both", x.mark(0, 1), 2);
            Check.due("counted so far", x.mark(0, 2), day);
            Check.due("cry", x.cry(0, 0, 1, 100), 1);
            x.later(1);
        }
        Check.due("lacks at one", x.mark(0, 1), 1);
        Check.due("counted", x.mark(0, 2), 3);
        Check.due("cry", x.cry(0, 0, 2, 100), 1);
        Check.due("counted", x.mark(0, 2), 4);
        x.back(0);
        Check.due("lacks when taken back, too", x.mark(0, 1), 1);
    }

    private static void marksOfFound() {
        CriersOffice x = Check.withSquares(0, 0);
        Check.write(x, 0, "ring");
        x.notice(5, 0, 1, 1, 3);
        x.notice(4, 0, 1, 1, 1);
        x.notice(4, 0, 1, 1, 6);
        x.notice(4, 0, 1, 1, 4);
        x.notice(5, 0, 1, 1, 3);
        Check.due("two lost ones", x.mark(0, 5), 2);
        x.back(2);
        Check.due("one of them taken back", x.mark(0, 5), 1);
        x.back(0);
        Check.due("taken back itself", x.mark(0, 5), 0);
        Check.due("its marks stay", x.mark(0, 4), 3);
    }

    private static void fees() {
        CriersOffice x = Check.withSquares(0, 0, 9, 9);
        Check.found(x, "mean of none", x.mean(), NOUGHT, 1);
        Check.due("fee bad", x.fee(0), BAD);
        Check.write(x, 0, "a b c 1234");
        x.notice(0, 0, 3, 4, 0);
        x.notice(1, 0, 1, 9, 0);
        x.notice(5, 0, 2, 1, 0);
        Check.due("fee", x.fee(0), 40);
        Check.due("fee of a law", x.fee(1), 15);
        Check.due("fee", x.fee(2), 5);
        Check.due("mean", x.mean(), 20);
        x.rate(5, 3);
        Check.due("fee at a new rate", x.fee(2), 15);
        Check.due("mean, cut", x.mean(), 23);
        x.rate(0, 0);
        Check.due("fee of nought", x.fee(0), 0);
        Check.due("mean", x.mean(), 10);
        x.back(0);
        Check.due("mean without what is taken back", x.mean(), 15);
        Check.due("fee of what is taken back", x.fee(1), 15);
        x.back(1);
        x.back(2);
        Check.found(x, "mean of none left", x.mean(), NOUGHT, 2);
        Check.due("fee bad", x.fee(3), BAD);
        Check.due("fee bad", x.fee(-1), BAD);
    }

    private static void backs() {
        CriersOffice x = Check.withSquares(0, 0);
        Check.due("back bad", x.back(0), BAD);
        Check.write(x, 0, "a");
        x.notice(0, 0, 1, 1, 0);
        x.notice(0, 0, 1, 1, 0);
        x.crier(0);
        Check.due("cry", x.cry(0, 0, 0, 0), 1);
        Check.due("back of what is done", x.back(0), STATE);
        Check.due("back", x.back(1), 1);
        Check.due("back twice", x.back(1), STATE);
        Check.due("not taken back", x.told(0, 5), 0);
        Check.due("taken back", x.told(1, 5), 1);
        Check.due("back bad", x.back(2), BAD);
        Check.due("back bad", x.back(-1), BAD);
    }
}
