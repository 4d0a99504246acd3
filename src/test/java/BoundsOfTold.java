/** The boundaries of promises 35 to 38. */
final class BoundsOfTold {
    private BoundsOfTold() { }

    static void all() {
        counts();
        latestFinding();
        findings();
        digests();
        digestOfSheets();
        digestWrapsAround();
    }

    private static void counts() {
        Document.promise(35, "0 SQUARES, 1 CRIERS, 2 NOTICES, 3 CRIES, 4 TODAY, 5 MOVES, 6 BARRED PIECES. BAD.");
        Busy.range("count", 0, 6, (x, v) -> x.count(v));
        int[] due = {3, 2, 4, 2, 1, 1, 2};
        for (int what = 0; what <= 6; what++) {
            Check.due("count(" + what + ")", Busy.office().count(what), due[what]);
            Check.due("count(" + what + ") at first", new CriersOffice().count(what), 0);
        }
    }

    private static void latestFinding() {
        Document.promise(36, "The latest FINDING (0 before any).");
        Document.terms("FINDINGS: 1 NOTHING (a SHEET that is missing), 2 BEYOND (a place that there is not), 3 UNLIKE (a NOTICE"
            + " of another KIND), 4 NOUGHT (shared among none), 5 SIZE (fewer than none).");
        CriersOffice x = new CriersOffice();
        Check.due("before any", x.finding(), 0);
        x.words(4);
        Check.due("behind a BAD call", x.finding(), 0);
        x.words(0);
        Check.due("nothing", x.finding(), 1);
        x.sheet(0, -1);
        Check.due("size", x.finding(), 5);
        x.mean();
        Check.due("nought", x.finding(), 4);
        x.sheet(0, 1);
        x.lay(0, 1, 'a');
        Check.due("beyond", x.finding(), 2);
        x.square(0, 0, 0);
        x.lay(0, 0, 'a');
        x.notice(0, 0, 1, 1, 0);
        x.mark(0, 1);
        Check.due("unlike", x.finding(), 3);
        x.mark(0, 0);
        x.count(7);
        x.cryTold(0, 0);
        x.mean();
        Check.due("it stays behind what is BAD, NONE or told", x.finding(), 3);
    }

    private static void findings() {
        Document.promise(37, "How often a FINDING (1 .. 5) was answered. BAD.");
        Busy.range("findings", 1, 5, (x, v) -> x.findings(v));
        CriersOffice x = new CriersOffice();
        for (int i = 1; i <= 150; i++) {
            Check.found(x, "tear", x.tear(i % 4), 1, i);
        }
        for (int f = 2; f <= 5; f++) {
            Check.due("of the others none", x.findings(f), 0);
        }
        Check.due("findings(0)", x.findings(0), CriersOffice.BAD);
        Check.due("findings(6)", x.findings(6), CriersOffice.BAD);
    }

    private static void digests() {
        Document.promise(38, "h = 17; then h = 31 h + v for each v: count() 0 to 6; of each NOTICE told() 0 to 6; of each CRY"
            + " cryTold() 0 to 5; of each CRIER its SQUARE and the minute from which it is free today;");
        CriersOffice x = Check.withSquares(0, 0, 9, 0);
        x.crier(0);
        x.crier(1);
        Check.write(x, 0, "a");
        x.notice(0, 0, 3, 1, 0);
        x.tear(0);
        Check.due("cry", x.cry(0, 0, 1, 1439), 1);
        Check.due("digest", x.digest(), digestOf(2, 2, 1, 1, 0, 0, 0, 0, 1, 3, 1, 0, 0, 0, 0, 0, 1, 0, 1439, 1,
            1, 1440, 1, 0, -1, -1, -1, -1));
        x.later(400);
        Check.due("free from 0 again", x.digest(), digestOf(2, 2, 1, 1, 400, 0, 0, 0, 1, 3, 1, 0, 0, 0, 0, 0, 1, 0, 1439, 1,
            1, 0, 1, 0, -1, -1, -1, -1));
    }

    private static void digestOfSheets() {
        Document.promise(38, "of each SHEET its size (-1: missing) and signs.");
        Check.due("no sheet", new CriersOffice().digest(), digestOf(0, 0, 0, 0, 0, 0, 0, -1, -1, -1, -1));
        CriersOffice x = new CriersOffice();
        x.sheet(0, 0);
        x.sheet(1, 1);
        x.sheet(3, 3);
        x.lay(1, 0, 127);
        x.lay(3, 0, 128);
        x.lay(3, 2, 255);
        Check.due("sheets", x.digest(), digestOf(0, 0, 0, 0, 0, 0, 0, 0, 1, 127, -1, 3, -128, 0, -1));
        x.tear(3);
        Check.due("the last one torn", x.digest(), digestOf(0, 0, 0, 0, 0, 0, 0, 0, 1, 127, -1, -1));
        x.sheet(3, 0);
        Check.due("the last one empty", x.digest(), digestOf(0, 0, 0, 0, 0, 0, 0, 0, 1, 127, -1, 0));
    }

    private static void digestWrapsAround() {
        CriersOffice x = new CriersOffice();
        long[] values = new long[7 + 4 * 81];
        for (int s = 0; s < 4; s++) {
            x.sheet(s, 80);
            values[7 + 81 * s] = 80;
            for (int i = 0; i < 80; i++) {
                x.lay(s, i, 'z' + i);
                values[8 + 81 * s + i] = (byte) ('z' + i);
            }
        }
        Check.due("a sum of four whole sheets", x.digest(), digestOf(values));
    }

    private static long digestOf(long... values) {
        long h = 17;
        for (long v : values) {
            h = 31 * h + v;
        }
        return h;
    }
}
