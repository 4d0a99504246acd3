import java.util.function.ToLongFunction;

/** What is refused changes nothing but finding(), findings(): an office with a refused call behaves as one without. */
public final class RefusalTest {
    private static final int BAD = CriersOffice.BAD, FULL = CriersOffice.FULL, FINDING = CriersOffice.FINDING,
        STATE = CriersOffice.STATE, BARRED = CriersOffice.BARRED;

    private static int tried = 0;

    public static void main(String[] args) {
        squaresAndSheets();
        noticesAndCries();
        hearersAndRounds();
        full();
        Check.holds("refusals were tried", tried > 60);
        Check.end();
    }

    /** Two days of an office: some of all that can be told, and a CRY today. */
    private static CriersOffice office() {
        CriersOffice x = new CriersOffice();
        x.square(0, 0, 127);
        x.square(3, 0, 3);
        x.square(20, 20, 0);
        x.hearing(7);
        x.crier(0);
        x.crier(1);
        Check.write(x, 0, "gin ale");
        x.bar(0);
        Check.write(x, 1, "lost ring");
        x.sheet(2, 5);
        x.rate(3, 4);
        x.notice(0, 1, 1, 1, 0);
        x.notice(1, 1, 3, 1, 0);
        x.notice(4, 1, 7, 2, 6);
        x.notice(5, 1, 7, 2, 3);
        x.move(1, 3, 4, 2);
        x.present(0, 1, 0, 900);
        x.cry(0, 0, 0, 10);
        x.later(1);
        x.present(1, 0, 10, 40);
        x.cry(2, 0, 0, 30);
        x.round(0, 7);
        return x;
    }

    /** All that the office answers, by calls that change it too, but for findings. */
    private static long[] answers(CriersOffice x) {
        long[] all = new long[1000];
        int at = 0;
        all[at++] = x.digest();
        for (int i = 0; i < 10; i++) {
            all[at++] = x.roundAt(i);
        }
        for (int p = 0; p < 10; p++) {
            for (int n = 0; n < 4; n++) {
                all[at++] = x.heard(p, n);
            }
        }
        for (int n = 0; n < 4; n++) {
            for (int s = 0; s < 3; s++) {
                all[at++] = x.counted(n, s);
                all[at++] = x.dueAt(s, n);
            }
            all[at++] = x.fee(n);
            for (int kind = 1; kind <= 5; kind++) {
                all[at++] = x.mark(n, kind);
            }
            all[at++] = x.joined(n, 1, 0);
        }
        for (int day = 0; day < 20; day++) {
            for (int known = 0; known < 4; known++) {
                all[at++] = x.market(1, day, known);
            }
        }
        for (int kind = 0; kind <= 5; kind++) {
            all[at++] = x.rate(kind, 0);
        }
        for (int s = 0; s <= 3; s++) {
            all[at++] = x.barred(s);
        }
        all[at++] = x.mean();
        all[at++] = x.present(0, 0, 0, 0);
        x.later(1);
        all[at++] = x.hearing(0);
        all[at++] = x.digest();
        return all;
    }

    private static void refused(String call, int due, ToLongFunction<CriersOffice> made) {
        tried++;
        CriersOffice with = office();
        CriersOffice without = office();
        long foundAhead = sumOfFindings(with);
        Check.due(call, made.applyAsLong(with), due);
        Check.due(call + " is a finding", sumOfFindings(with) - foundAhead, due == FINDING ? 1 : 0);
        long[] got = answers(with);
        long[] want = answers(without);
        for (int i = 0; i < got.length; i++) {
            if (got[i] != want[i]) {
                Check.due(call + " refused, then answer " + i, got[i], want[i]);
            }
        }
    }

    private static long sumOfFindings(CriersOffice x) {
        long sum = 0;
        for (int f = 1; f <= 5; f++) {
            sum += x.findings(f);
        }
        return sum;
    }

    private static void squaresAndSheets() {
        refused("square", BAD, x -> x.square(61, 0, 0));
        refused("walk", BAD, x -> x.walk(0, 3));
        refused("hearing", BAD, x -> x.hearing(61));
        refused("hearing", STATE, x -> x.hearing(9));
        refused("later", BAD, x -> x.later(400));
        refused("move", BAD, x -> x.move(1, 3, 3, 2));
        refused("move", STATE, x -> x.move(1, 8, 9, 0));
        refused("market", BAD, x -> x.market(1, 501, 0));
        refused("sheet", BAD, x -> x.sheet(1, 81));
        refused("sheet", FINDING, x -> x.sheet(1, -1));
        refused("sheet", FINDING, x -> x.sheet(3, -1));
        refused("lay", BAD, x -> x.lay(4, 0, 1));
        refused("lay", FINDING, x -> x.lay(3, 0, 1));
        refused("lay", FINDING, x -> x.lay(1, 9, 1));
        refused("tear", BAD, x -> x.tear(4));
        refused("tear", FINDING, x -> x.tear(3));
        refused("copy", BAD, x -> x.copy(1, 0, 4, 0, 1));
        refused("copy", FINDING, x -> x.copy(1, 0, 2, 0, -1));
        refused("copy", FINDING, x -> x.copy(3, 0, 2, 0, 1));
        refused("copy", FINDING, x -> x.copy(1, 0, 2, 0, 6));
        refused("words", BAD, x -> x.words(4));
        refused("words", FINDING, x -> x.words(3));
        refused("bar", BAD, x -> x.bar(-1));
        refused("bar", FINDING, x -> x.bar(3));
        refused("barred", BAD, x -> x.barred(4));
        refused("barred", FINDING, x -> x.barred(3));
    }

    private static void noticesAndCries() {
        refused("rate", BAD, x -> x.rate(3, 1001));
        refused("notice", BAD, x -> x.notice(0, 1, 8, 1, 0));
        refused("notice", BARRED, x -> x.notice(0, 0, 1, 1, 0));
        refused("notice", FINDING, x -> x.notice(0, 2, 1, 1, 0));
        refused("notice", FINDING, x -> x.notice(0, 3, 1, 1, 0));
        refused("told", BAD, x -> x.told(4, 0));
        refused("mark", BAD, x -> x.mark(0, 0));
        refused("mark", FINDING, x -> x.mark(0, 1));
        refused("fee", BAD, x -> x.fee(4));
        refused("back", BAD, x -> x.back(4));
        refused("back", STATE, x -> x.back(0));
        refused("crier", BAD, x -> x.crier(3));
        refused("ready", BAD, x -> x.ready(0, 3));
        refused("cry", BAD, x -> x.cry(1, 1, 1, 1440));
        refused("cry", STATE, x -> x.cry(1, 1, 2, 36));
        refused("cry", BARRED, x -> x.cry(1, 1, 1, 31));
        refused("counted", BAD, x -> x.counted(0, 3));
        refused("cryTold", BAD, x -> x.cryTold(0, 6));
        refused("due", BAD, x -> x.due(3));
        refused("dueAt", BAD, x -> x.dueAt(3, 0));
    }

    private static void hearersAndRounds() {
        refused("present", BAD, x -> x.present(0, 0, 5, 4));
        refused("heard", BAD, x -> x.heard(10, 0));
        refused("hearers", BAD, x -> x.hearers(0, 0));
        refused("round", BAD, x -> x.round(0, 8));
        refused("round", BAD, x -> x.round(2, 1));
        refused("joined", BAD, x -> x.joined(2, 17, 0));
        refused("joined", FINDING, x -> x.joined(3, 1, 0));
        refused("count", BAD, x -> x.count(7));
        refused("findings", BAD, x -> x.findings(0));
    }

    private static void full() {
        CriersOffice x = office();
        for (int i = 0; i < 60; i++) {
            x.square(1, 1, 1);
            x.crier(2);
            x.notice(0, 1, 1, 1, 0);
            x.move(0, 50, 51, 50);
            x.present(9, 2, 0, 0);
        }
        long ahead = x.digest();
        Check.due("square", x.square(1, 1, 1), FULL);
        Check.due("crier", x.crier(2), FULL);
        Check.due("notice", x.notice(0, 1, 1, 1, 0), FULL);
        Check.due("notice barred", x.notice(0, 0, 1, 1, 0), FULL);
        Check.due("notice of nothing", x.notice(0, 3, 1, 1, 0), FULL);
        Check.due("move", x.move(0, 0, 1, 50), FULL);
        Check.due("present", x.present(2, 0, 30, 30), FULL);
        Check.due("digest", x.digest(), ahead);
        Check.due("no stay was kept", x.heard(2, 2), 0);
        Check.due("no move was kept", x.market(0, 0, 50), 1);
        tried += 7;
    }
}
