/** Promises 35 to 38: count, finding, findings, digest. */
public final class ToldTest {
    private static final int BAD = CriersOffice.BAD;

    public static void main(String[] args) {
        counts();
        findings();
        digests();
        Check.end();
    }

    private static CriersOffice full() {
        CriersOffice x = Check.withSquares(0, 0, 3, 0, 9, 9);
        x.crier(0);
        x.crier(2);
        Check.write(x, 0, "a b c d");
        x.bar(0);
        Check.write(x, 0, "e 1234567890123456789012345678901");
        x.lay(0, 1, 200);
        x.notice(3, 0, 5, 2, 9);
        x.sheet(3, 2);
        x.sheet(2, 0);
        x.later(6);
        x.move(1, 7, 8, 9);
        x.cry(0, 1, 2, 10);
        x.cry(0, 1, 0, 40);
        x.cry(0, 1, 0, 60);
        return x;
    }

    private static void counts() {
        CriersOffice x = full();
        int[] due = {3, 2, 1, 3, 6, 1, 4};
        for (int what = 0; what < due.length; what++) {
            Check.due("count(" + what + ")", x.count(what), due[what]);
        }
        Check.due("count bad", x.count(-1), BAD);
        Check.due("count bad", x.count(7), BAD);
    }

    private static void findings() {
        CriersOffice x = Check.withSquares(0, 0);
        Check.write(x, 0, "a");
        x.notice(0, 0, 1, 1, 0);
        Check.due("finding", x.finding(), 0);
        Check.found(x, "nothing", x.words(1), 1, 1);
        Check.found(x, "beyond", x.lay(0, 1, 1), 2, 1);
        Check.found(x, "unlike", x.mark(0, 1), 3, 1);
        Check.found(x, "size", x.sheet(1, -1), 5, 1);
        x.back(0);
        Check.found(x, "nought", x.mean(), 4, 1);
        Check.found(x, "nothing", x.bar(1), 1, 2);
        Check.due("a bad call is no finding", x.bar(4), BAD);
        Check.due("the latest finding stays", x.finding(), 1);
        int[] due = {2, 1, 1, 1, 1};
        for (int f = 1; f <= 5; f++) {
            Check.due("findings(" + f + ")", x.findings(f), due[f - 1]);
        }
        Check.due("findings bad", x.findings(0), BAD);
        Check.due("findings bad", x.findings(6), BAD);
        Check.due("findings bad", x.findings(-1), BAD);
    }

    private static void digests() {
        long empty = 17;
        for (int i = 0; i < 7; i++) {
            empty = 31 * empty;
        }
        for (int s = 0; s < 4; s++) {
            empty = 31 * empty - 1;
        }
        Check.due("digest of a new one", new CriersOffice().digest(), empty);
        int[] told = {3, 2, 1, 3, 6, 1, 4,
            3, 12, 5, 2, 0, 0, 0,
            0, 1, 2, 6, 10, 1, 0, 1, 0, 6, 40, 1, 0, 1, 0, 6, 60, 0,
            0, 0, 0, 62,
            33, 'e', -56};
        long h = 17;
        for (int v : told) {
            h = 31 * h + v;
        }
        for (char c : "1234567890123456789012345678901".toCharArray()) {
            h = 31 * h + c;
        }
        int[] rest = {-1, 0, 2, 0, 0};
        for (int v : rest) {
            h = 31 * h + v;
        }
        CriersOffice x = full();
        Check.due("digest", x.digest(), h);
        Check.due("digest again", x.digest(), h);
    }
}
