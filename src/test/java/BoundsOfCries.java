/** The boundaries of promises 22 to 28, and of the Terms that they use. */
final class BoundsOfCries {
    private static final int BAD = CriersOffice.BAD, FULL = CriersOffice.FULL, STATE = CriersOffice.STATE,
        BARRED = CriersOffice.BARRED, NONE = CriersOffice.NONE;
    private static final int MIN = Integer.MIN_VALUE, MAX = Integer.MAX_VALUE;

    private BoundsOfCries() { }

    static void all() {
        criers();
        sixCriers();
        ready();
        readyEachDay();
        criesOfNumbers();
        criesByThen();
        criesApart();
        criesApartOnlyToday();
        minutesBegun();
        fourHundredCries();
        countsAtItsSquares();
        countsUntilTimes();
        countsOnceADay();
        countsOnMarkets();
        countsNotTakenBack();
        doneAtEach();
        counted();
        cryTold();
        due();
        dueAt();
    }

    /** SQUARES at these places with MARKET on every day, a CRIER at each, and NOTICE 0 at all of them. */
    private static CriersOffice office(int times, int... places) {
        CriersOffice x = Check.withSquares(places);
        for (int s = 0; s < places.length / 2; s++) {
            Check.due("crier", x.crier(s), s);
        }
        Check.write(x, 0, "a");
        Check.due("notice", x.notice(0, 0, (1 << places.length / 2) - 1, times, 0), 0);
        return x;
    }

    private static void criers() {
        Document.promise(22, "A CRIER at a SQUARE: its number. BAD;");
        Busy.range("crier", 0, 2, (x, v) -> x.crier(v));
        CriersOffice x = new CriersOffice();
        Check.due("crier while there is no square", x.crier(0), BAD);
        x.square(0, 0, 0);
        Check.due("crier at the only one", x.crier(0), 0);
        Check.due("crier at the next one", x.crier(1), BAD);
    }

    private static void sixCriers() {
        Document.promise(22, "FULL.");
        Document.terms("CRIERS 0, 1, .. (6 at most) are at a SQUARE and free from a minute on");
        CriersOffice x = Check.withSquares(0, 0);
        for (int i = 0; i < 6; i++) {
            Check.due("crier", x.crier(0), i);
        }
        Check.due("the 7th crier", x.crier(0), FULL);
        Check.due("CRIERS", x.count(1), 6);
        Check.due("the 6th is there", x.ready(5, 0), 0);
        Check.due("the 7th is not", x.ready(6, 0), BAD);
        Busy.refused(Busy::full, "crier", FULL, y -> y.crier(0));
        Busy.refused(Busy::full, "crier, bad and full", BAD, y -> y.crier(10));
    }

    private static void ready() {
        Document.promise(23, "The first minute at which a CRIER can be at a SQUARE today. BAD.");
        Busy.range("ready of crier", 0, 1, (x, v) -> x.ready(v, 0));
        Busy.range("ready at square", 0, 2, (x, v) -> x.ready(0, v));
        CriersOffice x = office(9, 0, 0, 60, 60);
        Check.due("where it is", x.ready(0, 0), 0);
        Check.due("as far as can be", x.ready(0, 1), 120);
        Check.due("cry", x.cry(0, 0, 0, 1439), 1);
        Check.due("beyond the day", x.ready(0, 0), 1440);
        Check.due("as far beyond the day as can be", x.ready(0, 1), 1560);
    }

    private static void readyEachDay() {
        Document.terms("(each day from 0 again).");
        CriersOffice x = office(9, 0, 0, 7, 0);
        Check.due("cry", x.cry(0, 0, 1, 1439), 1);
        Check.due("free behind it", x.ready(0, 1), 1440);
        x.later(1);
        Check.due("free from 0, where it was", x.ready(0, 1), 0);
        Check.due("and not where it was before", x.ready(0, 0), 7);
        Check.due("cry at 0", x.cry(0, 0, 1, 0), 1);
    }

    private static void criesOfNumbers() {
        Document.promise(24, "A CRY: 1 it COUNTS, 0 it does not. BAD;");
        Document.terms("A CRY of a NOTICE by a CRIER at a SQUARE at a minute (0 .. 1439) of TODAY:");
        Busy.range("cry of notice", 0, 3, (x, v) -> x.cry(v, 1, 1, 900));
        Busy.range("cry by crier", 0, 1, (x, v) -> x.cry(1, v, 0, 900));
        Busy.range("cry at square", 0, 2, (x, v) -> x.cry(1, 1, v, 900));
        Busy.range("cry at minute", 0, 1439, (x, v) -> x.cry(1, 1, 1, v));
    }

    private static void criesByThen() {
        Document.terms("the CRIER has to be free, and walked there, by then (minutes from when it was free);");
        Document.promise(24, "STATE: the CRIER can't be there by then;");
        CriersOffice x = office(9, 0, 0, 20, 0);
        Check.due("a minute too soon, walking", x.cry(0, 0, 1, 19), STATE);
        Check.due("just there", x.cry(0, 0, 1, 20), 1);
        Check.due("a minute too soon, crying", x.cry(0, 0, 1, 20), STATE);
        Check.due("just free", x.cry(0, 0, 1, 21), 0);
        Check.due("a minute too soon, both", x.cry(0, 0, 0, 41), STATE);
        Check.due("just there", x.cry(0, 0, 0, 42), 1);
        Check.due("back in time", x.cry(0, 0, 0, 0), STATE);
        CriersOffice y = office(9, 0, 0, 60, 60);
        y.cry(0, 0, 0, 1318);
        Check.due("there in the last minute", y.ready(0, 1), 1439);
        Check.due("and it cries in it", y.cry(0, 0, 1, 1439), 1);
        Check.due("the day is over for it", y.cry(0, 0, 1, 1439), STATE);
        Busy.refused("cry a minute too soon", STATE, z -> z.cry(1, 1, 2, 36));
        Busy.taken("cry just there", z -> z.cry(1, 1, 2, 37));
    }

    private static void criesApart() {
        Document.terms("no CRY by another CRIER today at a SQUARE in HEARING less than 5 minutes apart.");
        Document.promise(24, "BARRED: another one is in HEARING.");
        for (int apart = -6; apart <= 6; apart++) {
            boolean near = apart > -5 && apart < 5;
            Check.due("5 away, " + apart + " apart", second(5, apart), near ? BARRED : 1);
            Check.due("6 away, " + apart + " apart", second(6, apart), 1);
        }
        Busy.refused("cry 4 minutes behind", BARRED, x -> x.cry(1, 1, 1, 34));
        Busy.taken("cry 5 minutes behind", x -> x.cry(1, 1, 1, 35));
        Busy.refused("cry 4 minutes ahead", BARRED, x -> x.cry(1, 1, 1, 26));
        Busy.taken("cry 5 minutes ahead", x -> x.cry(1, 1, 1, 25));
        Busy.refused("cry too soon and drowned", STATE, x -> x.cry(1, 1, 2, 30));
        CriersOffice x = office(9, 0, 0);
        Check.due("cry", x.cry(0, 0, 0, 10), 1);
        Check.due("the same crier, 1 apart", x.cry(0, 0, 0, 11), 0);
    }

    /** What a second CRIER's CRY answers, so far away from the first one's and so many minutes apart. */
    private static int second(int away, int apart) {
        CriersOffice x = office(9, 0, 0, away, 0);
        Check.due("cry", x.cry(0, 0, 0, 100), 1);
        return x.cry(0, 1, 1, 100 + apart);
    }

    private static void criesApartOnlyToday() {
        CriersOffice x = office(9, 0, 0, 0, 0, 0, 0);
        Check.due("cry", x.cry(0, 0, 0, 100), 1);
        Check.due("drowned by one", x.cry(0, 1, 1, 104), BARRED);
        Check.due("not by that", x.cry(0, 1, 1, 105), 1);
        Check.due("drowned by the first", x.cry(0, 2, 2, 96), BARRED);
        Check.due("drowned by the second", x.cry(0, 2, 2, 109), BARRED);
        Check.due("behind both", x.cry(0, 2, 2, 110), 1);
        Check.due("a cry at 1439", x.cry(0, 0, 0, 1439), 0);
        x.later(1);
        Check.due("another day's is none", x.cry(0, 1, 1, 0), 1);
        Check.due("nor at the same minute", x.cry(0, 2, 2, 100), 1);
    }

    private static void minutesBegun() {
        Document.terms("It takes 1 minute for each 10 WORDS (begun): then the CRIER is free there.");
        for (int words = 1; words <= 40; words++) {
            CriersOffice x = Check.withSquares(0, 0, 3, 0);
            x.crier(0);
            Check.write(x, 0, "a ".repeat(words));
            x.notice(0, 0, 1, 9, 0);
            Check.due("cry", x.cry(0, 0, 1, 10), 0);
            int minutes = words <= 10 ? 1 : words <= 20 ? 2 : words <= 30 ? 3 : 4;
            Check.due("free there behind " + words + " words", x.ready(0, 1), 10 + minutes);
            Check.due("a minute too soon", x.cry(0, 0, 1, 9 + minutes), STATE);
            Check.due("just free", x.cry(0, 0, 1, 10 + minutes), 0);
        }
    }

    private static void fourHundredCries() {
        Document.terms("(400 CRIES at most.)");
        Document.promise(24, "FULL;");
        CriersOffice x = office(9, 0, 0, 0, 0);
        for (int i = 0; i < 400; i++) {
            Check.due("cry", x.cry(0, 0, 0, i), i == 0 ? 1 : 0);
        }
        long ahead = x.digest();
        Check.due("the 401st cry", x.cry(0, 0, 0, 400), FULL);
        Check.due("full and not there by then", x.cry(0, 0, 0, 0), FULL);
        Check.due("full and drowned", x.cry(0, 1, 1, 399), FULL);
        Check.due("bad and full", x.cry(0, 0, 0, 1440), BAD);
        Check.due("nothing was changed", x.digest(), ahead);
        Check.due("CRIES", x.count(3), 400);
        Check.due("the 400th is there", x.cryTold(399, 4), 399);
        Check.due("the 401st is not", x.cryTold(400, 4), NONE);
        x.later(1);
        Check.due("full on the next day, too", x.cry(0, 0, 0, 0), FULL);
        Check.due("and none counted", x.counted(0, 0), 1);
        Check.due("and no cry was today", x.hearing(6), 5);
    }

    private static void countsAtItsSquares() {
        Document.terms("A CRY COUNTS if the NOTICE is to be cried at that SQUARE,");
        CriersOffice x = Check.withSquares(0, 0, 0, 0, 0, 0, 0, 0, 0, 0, 0, 0, 0, 0, 0, 0, 0, 0, 0, 0);
        x.crier(0);
        Check.write(x, 0, "a");
        for (int s = 0; s < 10; s++) {
            Check.due("notice", x.notice(0, 0, 1 << s, 1, 0), s);
        }
        for (int n = 0; n < 10; n++) {
            for (int s = 0; s < 10; s++) {
                Check.due("cry of " + n + " at " + s, x.cry(n, 0, s, 10 * n + s), n == s ? 1 : 0);
            }
        }
    }

    private static void countsUntilTimes() {
        Document.terms("has not TIMES CRIES there that COUNT,");
        for (int times = 1; times <= 9; times++) {
            CriersOffice x = office(times, 0, 0);
            for (int i = 1; i <= 11; i++) {
                Check.due("cry " + i + " of " + times, x.cry(0, 0, 0, 0), i <= times ? 1 : 0);
                Check.due("counted", x.counted(0, 0), Math.min(i, times));
                x.later(1);
            }
        }
    }

    private static void countsOnceADay() {
        Document.terms("none there that COUNTS today, and,");
        CriersOffice x = office(9, 0, 0, 1, 0);
        Check.due("the first today", x.cry(0, 0, 0, 0), 1);
        Check.due("the second today", x.cry(0, 0, 0, 1438), 0);
        Check.due("elsewhere", x.cry(0, 0, 1, 1439), STATE);
        Check.due("elsewhere, by another crier", x.cry(0, 1, 1, 700), 1);
        x.later(1);
        Check.due("the first on the next day", x.cry(0, 0, 0, 0), 1);
        CriersOffice law = new CriersOffice();
        law.square(0, 0, 2);
        law.crier(0);
        Check.write(law, 0, "a");
        law.notice(1, 0, 1, 1, 0);
        law.later(8);
        law.move(0, 8, 9, 9);
        Check.due("on a market day", law.cry(0, 0, 0, 0), 1);
        law.later(1);
        law.move(0, 9, 10, 9);
        Check.due("on a day without one", law.cry(0, 0, 0, 0), 0);
        law.move(0, 12, 9, 9);
        Check.due("one that did not count is none", law.cry(0, 0, 0, 1), 1);
    }

    private static void countsOnMarkets() {
        Document.terms("of a LAW (BANS), the SQUARE has MARKET today as known today.");
        for (int kind = 0; kind <= 5; kind++) {
            int law = kind == 1 || kind == 2 ? 0 : 1;
            CriersOffice x = new CriersOffice();
            x.square(0, 0, 1);
            x.square(0, 0, 126);
            x.crier(0);
            Check.write(x, 0, "a");
            x.notice(kind, 0, 1, 9, 0);
            Check.due("market day 0, kind " + kind, x.cry(0, 0, 0, 0), 1);
            x.move(0, 7, 6, 7);
            x.later(6);
            Check.due("a move that is known tomorrow", x.cry(0, 0, 0, 0), law);
            x.later(1);
            Check.due("a move that is known today", x.cry(0, 0, 0, 0), law);
            x.move(0, 14, 8, 8);
            x.later(1);
            Check.due("moved to today, known today", x.cry(0, 0, 0, 0), 1);
        }
    }

    private static void countsNotTakenBack() {
        Document.terms("is not TAKEN BACK,");
        CriersOffice x = office(9, 0, 0);
        Check.due("cry", x.cry(0, 0, 0, 0), 1);
        x.later(1);
        x.back(0);
        Check.due("cry of what is taken back", x.cry(0, 0, 0, 0), 0);
        Check.due("what counted stays so", x.counted(0, 0), 1);
        Check.due("what counted stays so", x.cryTold(0, 5), 1);
        Check.due("not due", x.due(0), 0);
    }

    private static void doneAtEach() {
        Document.terms("A NOTICE is DONE if it has TIMES at each of its SQUARES.");
        CriersOffice x = Check.withSquares(0, 0, 0, 0, 0, 0, 0, 0, 0, 0, 0, 0, 0, 0, 0, 0, 0, 0, 0, 0);
        x.crier(0);
        Check.write(x, 0, "a");
        x.notice(0, 0, 1023, 1, 0);
        x.notice(0, 0, 512, 2, 0);
        for (int s = 0; s < 10; s++) {
            Check.due("not done ahead of square " + s, x.told(0, 6), 0);
            Check.due("cry", x.cry(0, 0, s, s), 1);
        }
        Check.due("done at all ten", x.told(0, 6), 1);
        Check.due("cry", x.cry(1, 0, 9, 20), 1);
        Check.due("not done by one of two times", x.told(1, 6), 0);
        x.later(1);
        Check.due("cry", x.cry(1, 0, 9, 20), 1);
        Check.due("done by two of two times", x.told(1, 6), 1);
    }

    private static void counted() {
        Document.promise(25, "How many CRIES of a NOTICE at a SQUARE COUNTED. BAD.");
        Busy.range("counted of notice", 0, 3, (x, v) -> x.counted(v, 0));
        Busy.range("counted at square", 0, 2, (x, v) -> x.counted(0, v));
        CriersOffice x = Check.withSquares(0, 0, 0, 0, 0, 0, 0, 0, 0, 0, 0, 0, 0, 0, 0, 0, 0, 0, 0, 0);
        x.crier(0);
        Check.write(x, 0, "a");
        x.notice(0, 0, 512, 1, 0);
        x.cry(0, 0, 9, 0);
        Check.due("counted at the tenth square", x.counted(0, 9), 1);
        Check.due("counted at a square that is not its own", x.counted(0, 0), 0);
        Check.due("counted at an eleventh square", x.counted(0, 10), BAD);
    }

    private static void cryTold() {
        Document.promise(26, "5 whether it COUNTED (1, 0). NONE: none such. BAD: what.");
        for (int what = 0; what <= 5; what++) {
            int w = what;
            Busy.indices("cryTold of " + w, 2, (x, i) -> x.cryTold(i, w));
        }
        Busy.range("cryTold what", 0, 5, (x, v) -> x.cryTold(0, v));
        for (int what : new int[] {-1, 6, MIN, MAX}) {
            Busy.refused("cryTold of none such, bad what " + what, BAD, x -> x.cryTold(2, what));
        }
    }

    private static void due() {
        Document.promise(27, "NOTICES that are DUE at a SQUARE today (not TAKEN BACK, a CRY there today would COUNT): how many;"
            + " the i-th of these by dueAt(). BAD.");
        Busy.range("due", 0, 2, (x, v) -> x.due(v));
        CriersOffice x = office(2, 0, 0, 0, 0);
        Check.due("due", x.due(0), 1);
        Check.due("a cry there", x.cry(0, 0, 0, 0), 1);
        Check.due("due no more today", x.due(0), 0);
        Check.due("due elsewhere", x.due(1), 1);
        x.later(1);
        Check.due("due on the next day", x.due(0), 1);
        Check.due("a second cry", x.cry(0, 0, 0, 0), 1);
        x.later(1);
        Check.due("due no more, as it has its times there", x.due(0), 0);
        Check.due("due elsewhere", x.due(1), 1);
        x.back(0);
        Check.due("due no more, as it is taken back", x.due(1), 0);
    }

    private static void dueAt() {
        Document.promise(28, "The i-th NOTICE that is DUE at a SQUARE today, by numbers; NONE: none such. BAD.");
        Busy.range("dueAt", 0, 2, (x, v) -> x.dueAt(v, 0));
        Busy.indices("dueAt", 3, (x, i) -> x.dueAt(1, i));
        Busy.refused("dueAt of none such at no square", BAD, x -> x.dueAt(3, -1));
        CriersOffice x = office(1, 0, 0);
        for (int i = 1; i < 40; i++) {
            x.notice(0, 0, 1, 1, 0);
        }
        Check.due("the first of forty", x.dueAt(0, 0), 0);
        Check.due("the last of forty", x.dueAt(0, 39), 39);
        Check.due("behind the last of forty", x.dueAt(0, 40), NONE);
        x.back(0);
        Check.due("the first of 39", x.dueAt(0, 0), 1);
        Check.due("the last of 39", x.dueAt(0, 38), 39);
        Check.due("behind the last of 39", x.dueAt(0, 39), NONE);
    }
}
