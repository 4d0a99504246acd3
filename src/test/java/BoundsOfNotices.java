/** The boundaries of promises 15 to 21, and of the Terms that they use. */
final class BoundsOfNotices {
    private static final int BAD = CriersOffice.BAD, FULL = CriersOffice.FULL, STATE = CriersOffice.STATE,
        BARRED = CriersOffice.BARRED;
    private static final int NOTHING = 1, UNLIKE = 3, NOUGHT = 4, SIZE = 5;
    private static final int MIN = Integer.MIN_VALUE, MAX = Integer.MAX_VALUE;

    private BoundsOfNotices() { }

    static void all() {
        rates();
        ratesAtFirst();
        kinds();
        sheetsAsTheyWere();
        squaresNotNone();
        allSquares();
        times();
        timesOfLaws();
        marksOfBits();
        marksKept();
        fortyNotices();
        barredNotices();
        noticesOfNothing();
        noticesWithoutWords();
        nothingAheadOfBarred();
        told();
        dueFromItsDay();
        marksOfKinds();
        marksUnlike();
        marksOfLaws();
        marksOfFound();
        fees();
        greatestFees();
        means();
        meansCut();
        backs();
        backsNotNow();
    }

    /** SQUARE 0 with MARKET on every day, CRIER 0 there, and a word on SHEET 0. */
    private static CriersOffice small() {
        CriersOffice x = Check.withSquares(0, 0);
        x.crier(0);
        Check.write(x, 0, "a");
        return x;
    }

    private static void rates() {
        Document.promise(15, "The rate of a KIND is r (0 .. 1000): what it was. BAD.");
        Busy.range("rate of kind", 0, 5, (x, v) -> x.rate(v, 7));
        for (int kind = 0; kind <= 5; kind++) {
            int k = kind;
            Busy.range("rate of kind " + k, 0, 1000, (x, v) -> x.rate(k, v));
        }
        CriersOffice x = new CriersOffice();
        x.rate(5, 1000);
        Check.due("refused", x.rate(5, 1001), BAD);
        Check.due("what it was", x.rate(5, 0), 1000);
        Check.due("refused", x.rate(5, -1), BAD);
        Check.due("what it was", x.rate(5, 1), 0);
    }

    private static void ratesAtFirst() {
        Document.terms("WORDS times a rate of its KIND (1 at first),");
        CriersOffice x = small();
        for (int kind = 0; kind <= 5; kind++) {
            Check.due("notice", x.notice(kind, 0, 1, 3, 0), kind);
            Check.due("fee by the first rate", x.fee(kind), 3);
            Check.due("rate at first", x.rate(kind, 7), 1);
            Check.due("fee by the next rate", x.fee(kind), 21);
        }
    }

    private static void kinds() {
        Document.promise(16, "its number. BAD:");
        Document.terms("NOTICES 0, 1, .. (40 at most) are of a KIND: 0 NOTICE, 1 LAW (a NOTICE, too), 2 BANS (a LAW, too),"
            + " 3 SALE (a NOTICE), 4 LOST (a NOTICE), 5 FOUND (a LOST one).");
        Busy.range("notice of kind", 0, 5, (x, v) -> x.notice(v, 1, 1, 1, 0));
        Busy.range(Busy::withAllSheets, "notice of sheet", 0, 3, (x, v) -> x.notice(0, v, 1, 1, 0));
        Check.due("its number", Busy.office().notice(0, 1, 1, 1, 0), 4);
    }

    private static void sheetsAsTheyWere() {
        Document.terms("Each is of a SHEET as it was: how many WORDS (more than 0);");
        CriersOffice x = small();
        x.notice(0, 0, 1, 1, 0);
        Check.write(x, 0, "a b");
        x.notice(0, 0, 1, 1, 0);
        x.tear(0);
        Check.due("one word, as it was", x.told(0, 1), 1);
        Check.due("two words, as it was", x.told(1, 1), 2);
        Check.write(x, 0, "a ".repeat(40));
        x.notice(0, 0, 1, 1, 0);
        Check.due("most words", x.told(2, 1), 40);
        x.bar(0);
        Check.due("what is barred later", x.fee(2), 40);
    }

    private static void squaresNotNone() {
        Document.promise(16, "also squares, times;");
        Document.terms("at SQUARES (bits, not none);");
        Busy.range("notice at squares", 1, 7, (x, v) -> x.notice(0, 1, v, 1, 0));
        for (int bits : new int[] {8, 9, 15, 512, 1023, 1024, 65536, 1 << 30, -8}) {
            Busy.refused("notice at squares " + bits, BAD, x -> x.notice(0, 1, bits, 1, 0));
        }
        for (int bits = 1; bits <= 7; bits++) {
            int b = bits;
            Busy.taken("notice at squares " + b, x -> x.notice(0, 1, b, 1, 0));
        }
        CriersOffice x = new CriersOffice();
        Check.write(x, 0, "a");
        Check.due("notice while there are no squares", x.notice(0, 0, 1, 1, 0), BAD);
        Check.due("notice at none", x.notice(0, 0, 0, 1, 0), BAD);
        x.square(0, 0, 0);
        Check.due("notice at the only one", x.notice(0, 0, 1, 1, 0), 0);
        Check.due("notice at the next one, too", x.notice(0, 0, 3, 1, 0), BAD);
    }

    private static void allSquares() {
        CriersOffice x = small();
        for (int i = 1; i < 10; i++) {
            x.square(i, i, 127);
        }
        Check.due("at ten squares", x.notice(0, 0, 1023, 1, 0), 0);
        Check.due("at the tenth alone", x.notice(0, 0, 512, 1, 0), 1);
        Check.due("at an eleventh", x.notice(0, 0, 1024, 1, 0), BAD);
        Check.due("at an eleventh, too", x.notice(0, 0, 2047, 1, 0), BAD);
        Check.due("SQUARES", x.told(0, 2), 1023);
        Check.due("SQUARES", x.told(1, 2), 512);
    }

    private static void times() {
        Document.terms("TIMES (1 .. 9;");
        for (int kind = 0; kind <= 5; kind++) {
            int k = kind;
            Busy.range("notice of kind " + k + ", times", 1, 9, (x, v) -> x.notice(k, 1, 1, v, 0));
        }
        for (int times : new int[] {1, 9}) {
            CriersOffice x = small();
            x.notice(0, 0, 1, times, 0);
            for (int i = 1; i <= times; i++) {
                Check.due("not done", x.told(0, 6), 0);
                Check.due("cry " + i + " of " + times, x.cry(0, 0, 0, 0), 1);
                x.later(1);
            }
            Check.due("done", x.told(0, 6), 1);
            Check.due("one more than " + times, x.cry(0, 0, 0, 0), 0);
        }
    }

    private static void timesOfLaws() {
        Document.terms("of a LAW, BANS always 3).");
        for (int kind = 0; kind <= 5; kind++) {
            for (int times : new int[] {1, 2, 3, 4, 9}) {
                CriersOffice x = small();
                x.notice(kind, 0, 1, times, 0);
                int due = kind == 1 || kind == 2 ? 3 : times;
                Check.due("times of kind " + kind + ", told " + times, x.told(0, 3), due);
                Check.due("fee of kind " + kind + ", told " + times, x.fee(0), due);
            }
        }
    }

    private static void marksOfBits() {
        Document.promise(16, "with MARKS (bits 0 .. 15;");
        for (int kind = 0; kind <= 5; kind++) {
            int k = kind;
            Busy.range("notice of kind " + k + ", marks", 0, 65535, (x, v) -> x.notice(k, 1, 1, 1, v));
        }
        for (int bit = 16; bit <= 31; bit++) {
            int marks = 1 << bit;
            Busy.refused("notice of mark " + bit, BAD, x -> x.notice(4, 1, 1, 1, marks));
            Busy.refused("notice of mark " + bit + " and one", BAD, x -> x.notice(5, 1, 1, 1, marks | 1));
        }
    }

    private static void marksKept() {
        Document.promise(16, "kept for LOST, FOUND)");
        CriersOffice x = small();
        int[] marks = {0, 1, 32768, 65535};
        for (int i = 0; i < marks.length; i++) {
            Check.due("lost", x.notice(4, 0, 1, 1, marks[i]), 2 * i);
            Check.due("found", x.notice(5, 0, 1, 1, marks[i]), 2 * i + 1);
            Check.due("marks of a lost one", x.mark(2 * i, 4), marks[i]);
            Check.due("marks of a found one", x.mark(2 * i + 1, 4), marks[i]);
        }
        for (int kind = 0; kind <= 3; kind++) {
            x.notice(kind, 0, 1, 1, 65535);
        }
        Check.due("those of other kinds join none", x.mark(7, 5), 3);
        Check.due("nor are they joined", x.joined(6, 1, 3), CriersOffice.NONE);
    }

    private static void fortyNotices() {
        Document.promise(16, "FULL;");
        CriersOffice x = small();
        for (int i = 0; i < 40; i++) {
            Check.due("notice", x.notice(i % 6, 0, 1, 1, 0), i);
        }
        Check.due("the 41st notice", x.notice(0, 0, 1, 1, 0), FULL);
        Check.due("NOTICES", x.count(2), 40);
        Check.due("the 40th is there", x.told(39, 0), 3);
        Check.due("the 41st is not", x.told(40, 0), BAD);
        Check.due("one that is taken back", x.back(39), 1);
        Check.due("makes no room", x.notice(0, 0, 1, 1, 0), FULL);
        Busy.refused(Busy::full, "notice", FULL, y -> y.notice(0, 1, 1, 1, 0));
        Busy.refused(Busy::full, "notice, bad and full", BAD, y -> y.notice(0, 1, 0, 1, 0));
        Busy.refused(Busy::full, "notice, full and barred", FULL, y -> y.notice(0, 0, 1, 1, 0));
        Busy.refused(Busy::full, "notice, full and without words", FULL, y -> y.notice(0, 2, 1, 1, 0));
        Busy.refused(Busy::full, "notice, full and of nothing", FULL, y -> y.notice(0, 3, 1, 1, 0));
    }

    private static void barredNotices() {
        Document.promise(16, "BARRED: a PIECE of it is;");
        Busy.refused("notice of a barred sheet", BARRED, x -> x.notice(0, 0, 1, 1, 0));
        Busy.refused("notice, bad and barred", BAD, x -> x.notice(0, 0, 1, 10, 0));
        CriersOffice x = Busy.office();
        String[] barred = {"gin", "no GIN", "a b c ale", "Ale,b", "1 ale"};
        for (String text : barred) {
            Check.write(x, 1, text);
            Check.due("notice of '" + text + "'", x.notice(0, 1, 1, 1, 0), BARRED);
        }
        String[] licensed = {"gi n", "gins", "pale", "gin1", "1ale", "al", "begin"};
        for (int i = 0; i < licensed.length; i++) {
            Check.write(x, 1, licensed[i]);
            Check.due("notice of '" + licensed[i] + "'", x.notice(0, 1, 1, 1, 0), 4 + i);
        }
    }

    private static void noticesOfNothing() {
        Document.promise(16, "NOTHING;");
        Busy.found("notice of a missing sheet", NOTHING, x -> x.notice(0, 3, 1, 1, 0));
        Busy.refused("notice, bad and of nothing", BAD, x -> x.notice(0, 3, 8, 1, 0));
        Busy.taken("notice of one that is there", x -> x.notice(0, 1, 1, 1, 0));
    }

    private static void noticesWithoutWords() {
        Document.promise(16, "SIZE: it has no WORDS.");
        Busy.found("notice of a sheet without words", SIZE, x -> x.notice(0, 2, 1, 1, 0));
        Busy.refused("notice, bad and without words", BAD, x -> x.notice(0, 2, 0, 1, 0));
        CriersOffice x = small();
        x.sheet(0, 0);
        Check.found(x, "notice of an empty sheet", x.notice(0, 0, 1, 1, 0), SIZE, 1);
        Check.write(x, 0, " .!? ");
        Check.found(x, "notice of signs without words", x.notice(0, 0, 1, 1, 0), SIZE, 2);
        x.lay(0, 4, '1');
        Check.due("notice of one word", x.notice(0, 0, 1, 1, 0), 0);
    }

    private static void nothingAheadOfBarred() {
        Document.promise(16, "(NOTHING ahead of BARRED.)");
        CriersOffice x = Busy.office();
        Check.due("barred", x.notice(0, 0, 1, 1, 0), BARRED);
        x.tear(0);
        int often = x.findings(NOTHING);
        Check.found(x, "of nothing, whatever is barred", x.notice(0, 0, 1, 1, 0), NOTHING, often + 1);
    }

    private static void told() {
        Document.promise(17, "Of a NOTICE: 0 its KIND, 1 WORDS, 2 SQUARES, 3 TIMES, 4 the day on which it was taken, 5"
            + " whether it is TAKEN BACK (1, 0), 6 whether it is DONE (1, 0). BAD.");
        Busy.range("told of notice", 0, 3, (x, v) -> x.told(v, 0));
        Busy.range("told what", 0, 6, (x, v) -> x.told(0, v));
        CriersOffice x = Busy.office();
        int[][] due = {{0, 2, 1, 1, 0, 0, 1}, {1, 2, 3, 3, 0, 0, 0}, {4, 2, 7, 2, 0, 0, 0}, {5, 2, 7, 2, 0, 1, 0}};
        x.back(3);
        for (int n = 0; n <= 3; n++) {
            for (int what = 0; what <= 6; what++) {
                Check.due("told(" + n + ", " + what + ")", x.told(n, what), due[n][what]);
            }
        }
    }

    private static void dueFromItsDay() {
        Document.terms("It is DUE from the day on which it was taken.");
        CriersOffice x = small();
        x.later(399);
        Check.due("due before", x.due(0), 0);
        x.notice(0, 0, 1, 1, 0);
        Check.due("the day on which it was taken", x.told(0, 4), 399);
        Check.due("due on that day", x.due(0), 1);
        x.later(1);
        Check.due("due on the next day", x.due(0), 1);
        Check.due("the day on which it was taken", x.told(0, 4), 399);
    }

    private static void marksOfKinds() {
        Document.promise(18, "BAD: also KIND 0;");
        int[][] ends = {{3, 4}, {3, 5}, {1, 1}};
        for (int[] e : ends) {
            Busy.taken("mark(" + e[0] + ", " + e[1] + ")", x -> x.mark(e[0], e[1]));
        }
        for (int n = 0; n <= 3; n++) {
            for (int kind : new int[] {0, -1, 6, MIN, MAX}) {
                int m = n;
                Busy.refused("mark(" + m + ", " + kind + ")", BAD, x -> x.mark(m, kind));
            }
        }
        for (int n : new int[] {-1, 4, MIN, MAX}) {
            Busy.refused("mark of notice " + n, BAD, x -> x.mark(n, 4));
        }
        CriersOffice x = small();
        x.notice(1, 0, 1, 1, 0);
        Check.due("mark of the first notice", x.mark(0, 1), 1);
    }

    private static void marksUnlike() {
        Document.promise(18, "UNLIKE.");
        Document.terms("3 UNLIKE (a NOTICE of another KIND),");
        String[] is = {"", "1", "12", "3", "4", "45"};
        CriersOffice x = small();
        for (int kind = 0; kind <= 5; kind++) {
            x.notice(kind, 0, 1, 1, 0);
        }
        int often = 0;
        for (int n = 0; n <= 5; n++) {
            for (int kind = 1; kind <= 5; kind++) {
                int got = x.mark(n, kind);
                if (is[n].indexOf('0' + kind) >= 0) {
                    Check.holds("a notice of kind " + n + " is of kind " + kind, got >= 0);
                } else {
                    often++;
                    Check.found(x, "a notice of kind " + n + " by kind " + kind, got, UNLIKE, often);
                }
            }
        }
        Busy.found("mark of a notice by law", UNLIKE, y -> y.mark(0, 1));
        Busy.found("mark of a lost one by found", UNLIKE, y -> y.mark(2, 5));
    }

    private static void marksOfLaws() {
        Document.promise(18, "a LAW (BANS, too) at how many SQUARES it lacks CRIES, BANS how many CRIES COUNTED in all,");
        CriersOffice x = Check.withSquares(0, 0, 9, 0);
        x.crier(0);
        Check.write(x, 0, "a");
        x.notice(2, 0, 3, 1, 0);
        int[][] due = {{2, 0}, {2, 1}, {2, 2}, {1, 3}, {1, 4}, {1, 5}, {0, 6}};
        for (int i = 0; i < due.length; i++) {
            Check.due("squares that lack cries, behind " + i, x.mark(0, 1), due[i][0]);
            Check.due("cries counted in all, behind " + i, x.mark(0, 2), due[i][1]);
            x.cry(0, 0, i < 3 ? 0 : 1, 100);
            x.cry(0, 0, i < 3 ? 0 : 1, 200);
            x.later(1);
        }
    }

    private static void marksOfFound() {
        Document.promise(18, "a SALE its FEE, a LOST one (FOUND, too) its MARKS, a FOUND one with how many LOST ones it"
            + " would be JOINED by 1.");
        CriersOffice x = small();
        x.notice(3, 0, 1, 9, 0);
        x.notice(5, 0, 1, 1, 0b1100);
        Check.due("a sale's fee", x.mark(0, 3), 9);
        x.rate(3, 0);
        Check.due("a sale's fee by rate 0", x.mark(0, 3), 0);
        Check.due("with none", x.mark(1, 5), 0);
        x.notice(4, 0, 1, 1, 0b0011);
        Check.due("no mark in both", x.mark(1, 5), 0);
        x.notice(4, 0, 1, 1, 0b0110);
        Check.due("one mark in both", x.mark(1, 5), 1);
        x.notice(4, 0, 1, 1, 0b1100);
        Check.due("two marks in both", x.mark(1, 5), 2);
        x.notice(5, 0, 1, 1, 0b1100);
        Check.due("another found one is none", x.mark(1, 5), 2);
        x.back(4);
        Check.due("one taken back is none", x.mark(1, 5), 1);
    }

    private static void fees() {
        Document.promise(19, "FEE of a NOTICE. BAD.");
        Busy.range("fee", 0, 3, (x, v) -> x.fee(v));
        CriersOffice x = small();
        Check.due("fee of none", x.fee(0), BAD);
        x.notice(0, 0, 1, 1, 0);
        Check.due("fee of the first", x.fee(0), 1);
        Check.due("fee of the next", x.fee(1), BAD);
        x.rate(0, 0);
        Check.due("fee by rate 0", x.fee(0), 0);
    }

    private static void greatestFees() {
        CriersOffice x = small();
        for (int i = 1; i < 10; i++) {
            x.square(i, i, 127);
        }
        x.rate(0, 1000);
        Check.write(x, 0, "a ".repeat(40));
        for (int i = 0; i < 40; i++) {
            x.notice(0, 0, 1023, 9, 0);
        }
        Check.due("the greatest fee", x.fee(39), 40 * 1000 * 10 * 9);
        Check.due("the mean of forty of them", x.mean(), 40 * 1000 * 10 * 9);
    }

    private static void means() {
        Document.promise(20, "NOUGHT.");
        Document.terms("4 NOUGHT (shared among none),");
        CriersOffice x = small();
        Check.found(x, "mean of none", x.mean(), NOUGHT, 1);
        x.notice(0, 0, 1, 1, 0);
        Check.due("mean of one", x.mean(), 1);
        x.rate(0, 0);
        Check.due("mean of one of fee 0", x.mean(), 0);
        x.back(0);
        Check.found(x, "mean of one that is taken back", x.mean(), NOUGHT, 2);
        Busy.found(BoundsOfNotices::allTakenBack, "mean of none left", NOUGHT, y -> y.mean());
    }

    private static CriersOffice allTakenBack() {
        CriersOffice x = small();
        x.notice(4, 0, 1, 1, 3);
        x.notice(5, 0, 1, 1, 3);
        x.back(0);
        x.back(1);
        return x;
    }

    private static void meansCut() {
        Document.promise(20, "All FEES of NOTICES that are not TAKEN BACK by how many these are, cut.");
        CriersOffice x = small();
        int[] times = {1, 1, 4, 6};
        int[] due = {1, 1, 2, 3};
        for (int i = 0; i < times.length; i++) {
            x.notice(0, 0, 1, times[i], 0);
            Check.due("mean of " + (i + 1), x.mean(), due[i]);
        }
        x.back(3);
        Check.due("mean without the last", x.mean(), 2);
        x.back(0);
        Check.due("5 by 2, cut", x.mean(), 2);
        x.back(2);
        Check.due("mean of one", x.mean(), 1);
    }

    private static void backs() {
        Document.promise(21, "A NOTICE is TAKEN BACK: 1. BAD;");
        Busy.taken("back of the last notice", x -> x.back(3));
        for (int n : new int[] {-1, 4, MIN, MAX}) {
            Busy.refused("back of notice " + n, BAD, x -> x.back(n));
        }
        CriersOffice x = small();
        x.notice(0, 0, 1, 1, 0);
        Check.due("back of the first notice", x.back(0), 1);
        Check.due("taken back", x.told(0, 5), 1);
    }

    private static void backsNotNow() {
        Document.promise(21, "STATE: it is, or is DONE.");
        Busy.refused("back of what is done", STATE, x -> x.back(0));
        CriersOffice x = small();
        x.square(1, 0, 127);
        x.notice(0, 0, 3, 2, 0);
        x.notice(0, 0, 3, 2, 0);
        for (int day = 0; day < 2; day++) {
            for (int n = 0; n < 2; n++) {
                Check.due("cry", x.cry(n, 0, 0, 10 + 20 * n), 1);
                if (day == 0 || n == 0) {
                    Check.due("cry", x.cry(n, 0, 1, 20 + 20 * n), 1);
                }
            }
            x.later(1);
        }
        Check.due("done", x.told(0, 6), 1);
        Check.due("back of what is done", x.back(0), STATE);
        Check.due("still not taken back", x.told(0, 5), 0);
        Check.due("lacks a cry", x.told(1, 6), 0);
        Check.due("back of what lacks a cry", x.back(1), 1);
        Check.due("back of what is taken back", x.back(1), STATE);
        Check.due("still taken back", x.told(1, 5), 1);
    }
}
