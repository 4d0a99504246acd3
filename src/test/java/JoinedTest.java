/** Promise 34: joined. */
public final class JoinedTest {
    private static final int BAD = CriersOffice.BAD, NONE = CriersOffice.NONE;

    public static void main(String[] args) {
        CriersOffice x = Check.withSquares(0, 0);
        Check.write(x, 0, "glove");
        x.notice(5, 0, 1, 1, 0b0011);
        x.notice(4, 0, 1, 1, 0b0111);
        x.notice(5, 0, 1, 1, 0b1110);
        x.notice(4, 0, 1, 1, 65535);
        x.notice(5, 0, 1, 1, 65535);
        x.notice(5, 0, 1, 1, 0);
        x.notice(0, 0, 1, 1, 65535);
        joins(x, 1, 1, 0, 2, 4);
        joins(x, 1, 2, 0, 2, 4);
        joins(x, 1, 3, 4);
        joins(x, 1, 4);
        joins(x, 3, 3, 2, 4);
        joins(x, 3, 16, 4);
        x.back(4);
        joins(x, 3, 1, 0, 2);
        x.back(3);
        joins(x, 3, 1);
        refusals(x);
        Check.end();
    }

    private static void joins(CriersOffice x, int notice, int k, int... due) {
        for (int i = 0; i < due.length; i++) {
            Check.due("joined(" + notice + ", " + k + ", " + i + ")", x.joined(notice, k, i), due[i]);
        }
        Check.due("joined behind", x.joined(notice, k, due.length), NONE);
        Check.due("joined ahead", x.joined(notice, k, -1), NONE);
    }

    private static void refusals(CriersOffice x) {
        Check.due("joined bad", x.joined(1, 0, 0), BAD);
        Check.due("joined bad", x.joined(1, 17, 0), BAD);
        Check.due("joined bad", x.joined(7, 1, 0), BAD);
        Check.due("joined bad", x.joined(-1, 1, 0), BAD);
        Check.due("bad ahead of unlike", x.joined(0, 0, 0), BAD);
        Check.found(x, "joined of a found one", x.joined(0, 1, 0), 3, 1);
        Check.found(x, "joined of a notice", x.joined(6, 1, -1), 3, 2);
    }
}
